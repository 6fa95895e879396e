section
-- ===== PART A: goes FIRST, ahead of the names: the tables' words, and 'selects' of the private methods out of them =====
/-- a private method of a class that the tables say can be made, by its rows of tables_1 -/
def lw_okq (q : MethodName × Nat) : Prop := (q.1.cls ≠ "java/lang/invoke/MethodHandle" ∧ q.1.cls ≠ "java/lang/invoke/VarHandle") ∧ Cond.instantiable q.1.cls q.2 ∈ tables_1 ∧ Cond.privateMethod q.1 ∈ tables_1 ∧ Cond.instanceMethod q.1 ∈ tables_1
theorem lw_p0 : lw_okq (⟨"CapitalCase$Script", "layDown", "(III)V"⟩, 15) := ⟨⟨by decide +kernel, by decide +kernel⟩, List.mem_of_getElem? (i := 32) (by decide +kernel), List.mem_of_getElem? (i := 45) (by decide +kernel), List.mem_of_getElem? (i := 46) (by decide +kernel)⟩
theorem lw_p1 : lw_okq (⟨"CapitalCase", "append", "(I)V"⟩, 16) := ⟨⟨by decide +kernel, by decide +kernel⟩, List.mem_of_getElem? (i := 24) (by decide +kernel), List.mem_of_getElem? (i := 497) (by decide +kernel), List.mem_of_getElem? (i := 498) (by decide +kernel)⟩
theorem lw_p2 : lw_okq (⟨"CapitalCase$Parser", "next", "()I"⟩, 10) := ⟨⟨by decide +kernel, by decide +kernel⟩, List.mem_of_getElem? (i := 145) (by decide +kernel), List.mem_of_getElem? (i := 647) (by decide +kernel), List.mem_of_getElem? (i := 648) (by decide +kernel)⟩
theorem lw_p3 : lw_okq (⟨"CapitalCase$Parser", "parseHouse", "()V"⟩, 10) := ⟨⟨by decide +kernel, by decide +kernel⟩, List.mem_of_getElem? (i := 145) (by decide +kernel), List.mem_of_getElem? (i := 651) (by decide +kernel), List.mem_of_getElem? (i := 652) (by decide +kernel)⟩
theorem lw_p4 : lw_okq (⟨"CapitalCase$Parser", "fail", "(I)Z"⟩, 10) := ⟨⟨by decide +kernel, by decide +kernel⟩, List.mem_of_getElem? (i := 145) (by decide +kernel), List.mem_of_getElem? (i := 655) (by decide +kernel), List.mem_of_getElem? (i := 656) (by decide +kernel)⟩
theorem lw_p5 : lw_okq (⟨"CapitalCase$Parser", "accept", "(I)Z"⟩, 10) := ⟨⟨by decide +kernel, by decide +kernel⟩, List.mem_of_getElem? (i := 145) (by decide +kernel), List.mem_of_getElem? (i := 659) (by decide +kernel), List.mem_of_getElem? (i := 660) (by decide +kernel)⟩
theorem lw_p6 : lw_okq (⟨"CapitalCase$Parser", "noteName", "(I)V"⟩, 10) := ⟨⟨by decide +kernel, by decide +kernel⟩, List.mem_of_getElem? (i := 145) (by decide +kernel), List.mem_of_getElem? (i := 663) (by decide +kernel), List.mem_of_getElem? (i := 664) (by decide +kernel)⟩
theorem lw_p7 : lw_okq (⟨"CapitalCase$Parser", "isSame", "(II)Z"⟩, 10) := ⟨⟨by decide +kernel, by decide +kernel⟩, List.mem_of_getElem? (i := 145) (by decide +kernel), List.mem_of_getElem? (i := 667) (by decide +kernel), List.mem_of_getElem? (i := 668) (by decide +kernel)⟩
theorem lw_p8 : lw_okq (⟨"CapitalCase$Parser", "noteLater", "(ZII)V"⟩, 10) := ⟨⟨by decide +kernel, by decide +kernel⟩, List.mem_of_getElem? (i := 145) (by decide +kernel), List.mem_of_getElem? (i := 671) (by decide +kernel), List.mem_of_getElem? (i := 672) (by decide +kernel)⟩
theorem lw_p9 : lw_okq (⟨"CapitalCase$Parser", "areLetters", "(I)Z"⟩, 10) := ⟨⟨by decide +kernel, by decide +kernel⟩, List.mem_of_getElem? (i := 145) (by decide +kernel), List.mem_of_getElem? (i := 675) (by decide +kernel), List.mem_of_getElem? (i := 676) (by decide +kernel)⟩
theorem lw_p10 : lw_okq (⟨"CapitalCase$Parser", "letterOf", "(II)I"⟩, 10) := ⟨⟨by decide +kernel, by decide +kernel⟩, List.mem_of_getElem? (i := 145) (by decide +kernel), List.mem_of_getElem? (i := 679) (by decide +kernel), List.mem_of_getElem? (i := 680) (by decide +kernel)⟩
theorem lw_p11 : lw_okq (⟨"CapitalCase$Parser", "parseVerse", "()V"⟩, 10) := ⟨⟨by decide +kernel, by decide +kernel⟩, List.mem_of_getElem? (i := 145) (by decide +kernel), List.mem_of_getElem? (i := 683) (by decide +kernel), List.mem_of_getElem? (i := 684) (by decide +kernel)⟩
theorem lw_p12 : lw_okq (⟨"CapitalCase$Parser", "intOf", "(III)I"⟩, 10) := ⟨⟨by decide +kernel, by decide +kernel⟩, List.mem_of_getElem? (i := 145) (by decide +kernel), List.mem_of_getElem? (i := 687) (by decide +kernel), List.mem_of_getElem? (i := 688) (by decide +kernel)⟩
theorem lw_p13 : lw_okq (⟨"CapitalCase$Parser", "parseLaw", "(I)V"⟩, 10) := ⟨⟨by decide +kernel, by decide +kernel⟩, List.mem_of_getElem? (i := 145) (by decide +kernel), List.mem_of_getElem? (i := 691) (by decide +kernel), List.mem_of_getElem? (i := 692) (by decide +kernel)⟩
theorem lw_p14 : lw_okq (⟨"CapitalCase$Parser", "parseSum", "(I)Z"⟩, 10) := ⟨⟨by decide +kernel, by decide +kernel⟩, List.mem_of_getElem? (i := 145) (by decide +kernel), List.mem_of_getElem? (i := 695) (by decide +kernel), List.mem_of_getElem? (i := 696) (by decide +kernel)⟩
theorem lw_p15 : lw_okq (⟨"CapitalCase$Parser", "parsePart", "(I)Z"⟩, 10) := ⟨⟨by decide +kernel, by decide +kernel⟩, List.mem_of_getElem? (i := 145) (by decide +kernel), List.mem_of_getElem? (i := 699) (by decide +kernel), List.mem_of_getElem? (i := 700) (by decide +kernel)⟩
def lw_privs_1 : List (MethodName × Nat) := [(⟨"CapitalCase$Script", "layDown", "(III)V"⟩, 15), (⟨"CapitalCase", "append", "(I)V"⟩, 16), (⟨"CapitalCase$Parser", "next", "()I"⟩, 10), (⟨"CapitalCase$Parser", "parseHouse", "()V"⟩, 10), (⟨"CapitalCase$Parser", "fail", "(I)Z"⟩, 10), (⟨"CapitalCase$Parser", "accept", "(I)Z"⟩, 10), (⟨"CapitalCase$Parser", "noteName", "(I)V"⟩, 10), (⟨"CapitalCase$Parser", "isSame", "(II)Z"⟩, 10), (⟨"CapitalCase$Parser", "noteLater", "(ZII)V"⟩, 10), (⟨"CapitalCase$Parser", "areLetters", "(I)Z"⟩, 10), (⟨"CapitalCase$Parser", "letterOf", "(II)I"⟩, 10), (⟨"CapitalCase$Parser", "parseVerse", "()V"⟩, 10), (⟨"CapitalCase$Parser", "intOf", "(III)I"⟩, 10), (⟨"CapitalCase$Parser", "parseLaw", "(I)V"⟩, 10), (⟨"CapitalCase$Parser", "parseSum", "(I)Z"⟩, 10), (⟨"CapitalCase$Parser", "parsePart", "(I)Z"⟩, 10)]
theorem lw_r1 : ∀ q ∈ lw_privs_1, lw_okq q := List.forall_mem_cons.mpr ⟨lw_p0, List.forall_mem_cons.mpr ⟨lw_p1, List.forall_mem_cons.mpr ⟨lw_p2, List.forall_mem_cons.mpr ⟨lw_p3, List.forall_mem_cons.mpr ⟨lw_p4, List.forall_mem_cons.mpr ⟨lw_p5, List.forall_mem_cons.mpr ⟨lw_p6, List.forall_mem_cons.mpr ⟨lw_p7, List.forall_mem_cons.mpr ⟨lw_p8, List.forall_mem_cons.mpr ⟨lw_p9, List.forall_mem_cons.mpr ⟨lw_p10, List.forall_mem_cons.mpr ⟨lw_p11, List.forall_mem_cons.mpr ⟨lw_p12, List.forall_mem_cons.mpr ⟨lw_p13, List.forall_mem_cons.mpr ⟨lw_p14, List.forall_mem_cons.mpr ⟨lw_p15, fun _ h => absurd h List.not_mem_nil⟩⟩⟩⟩⟩⟩⟩⟩⟩⟩⟩⟩⟩⟩⟩⟩
theorem lw_p16 : lw_okq (⟨"CapitalCase$Parser", "parseUnit", "(I)Z"⟩, 10) := ⟨⟨by decide +kernel, by decide +kernel⟩, List.mem_of_getElem? (i := 145) (by decide +kernel), List.mem_of_getElem? (i := 703) (by decide +kernel), List.mem_of_getElem? (i := 704) (by decide +kernel)⟩
theorem lw_p17 : lw_okq (⟨"CapitalCase$Parser", "parseNumber", "(I)V"⟩, 10) := ⟨⟨by decide +kernel, by decide +kernel⟩, List.mem_of_getElem? (i := 145) (by decide +kernel), List.mem_of_getElem? (i := 712) (by decide +kernel), List.mem_of_getElem? (i := 713) (by decide +kernel)⟩
theorem lw_p18 : lw_okq (⟨"CapitalCase", "beginAnew", "()V"⟩, 16) := ⟨⟨by decide +kernel, by decide +kernel⟩, List.mem_of_getElem? (i := 24) (by decide +kernel), List.mem_of_getElem? (i := 723) (by decide +kernel), List.mem_of_getElem? (i := 724) (by decide +kernel)⟩
theorem lw_p19 : lw_okq (⟨"CapitalCase", "isCell", "(II)Z"⟩, 16) := ⟨⟨by decide +kernel, by decide +kernel⟩, List.mem_of_getElem? (i := 24) (by decide +kernel), List.mem_of_getElem? (i := 741) (by decide +kernel), List.mem_of_getElem? (i := 742) (by decide +kernel)⟩
theorem lw_p20 : lw_okq (⟨"CapitalCase", "isHouse", "(I)Z"⟩, 16) := ⟨⟨by decide +kernel, by decide +kernel⟩, List.mem_of_getElem? (i := 24) (by decide +kernel), List.mem_of_getElem? (i := 745) (by decide +kernel), List.mem_of_getElem? (i := 746) (by decide +kernel)⟩
theorem lw_p21 : lw_okq (⟨"CapitalCase$Judge", "lookAtHouse", "(LCapitalCase$Town;II)V"⟩, 3) := ⟨⟨by decide +kernel, by decide +kernel⟩, List.mem_of_getElem? (i := 307) (by decide +kernel), List.mem_of_getElem? (i := 767) (by decide +kernel), List.mem_of_getElem? (i := 768) (by decide +kernel)⟩
theorem lw_p22 : lw_okq (⟨"CapitalCase$Judge", "judge", "(I)I"⟩, 3) := ⟨⟨by decide +kernel, by decide +kernel⟩, List.mem_of_getElem? (i := 307) (by decide +kernel), List.mem_of_getElem? (i := 772) (by decide +kernel), List.mem_of_getElem? (i := 773) (by decide +kernel)⟩
theorem lw_p23 : lw_okq (⟨"CapitalCase", "isVerse", "(I)Z"⟩, 16) := ⟨⟨by decide +kernel, by decide +kernel⟩, List.mem_of_getElem? (i := 24) (by decide +kernel), List.mem_of_getElem? (i := 785) (by decide +kernel), List.mem_of_getElem? (i := 786) (by decide +kernel)⟩
theorem lw_p24 : lw_okq (⟨"CapitalCase", "standOf", "(I)I"⟩, 16) := ⟨⟨by decide +kernel, by decide +kernel⟩, List.mem_of_getElem? (i := 24) (by decide +kernel), List.mem_of_getElem? (i := 789) (by decide +kernel), List.mem_of_getElem? (i := 790) (by decide +kernel)⟩
theorem lw_p25 : lw_okq (⟨"CapitalCase$Judge", "lookAtVerse", "(I)V"⟩, 3) := ⟨⟨by decide +kernel, by decide +kernel⟩, List.mem_of_getElem? (i := 307) (by decide +kernel), List.mem_of_getElem? (i := 797) (by decide +kernel), List.mem_of_getElem? (i := 798) (by decide +kernel)⟩
theorem lw_p26 : lw_okq (⟨"CapitalCase", "isOpen", "(I)Z"⟩, 16) := ⟨⟨by decide +kernel, by decide +kernel⟩, List.mem_of_getElem? (i := 24) (by decide +kernel), List.mem_of_getElem? (i := 822) (by decide +kernel), List.mem_of_getElem? (i := 823) (by decide +kernel)⟩
theorem lw_p27 : lw_okq (⟨"CapitalCase", "couldBeSet", "(I)Z"⟩, 16) := ⟨⟨by decide +kernel, by decide +kernel⟩, List.mem_of_getElem? (i := 24) (by decide +kernel), List.mem_of_getElem? (i := 830) (by decide +kernel), List.mem_of_getElem? (i := 831) (by decide +kernel)⟩
theorem lw_p28 : lw_okq (⟨"CapitalCase$Planner", "orderGivers", "(LCapitalCase$Town;II)V"⟩, 12) := ⟨⟨by decide +kernel, by decide +kernel⟩, List.mem_of_getElem? (i := 336) (by decide +kernel), List.mem_of_getElem? (i := 840) (by decide +kernel), List.mem_of_getElem? (i := 841) (by decide +kernel)⟩
theorem lw_p29 : lw_okq (⟨"CapitalCase$Planner", "pick", "(II)I"⟩, 12) := ⟨⟨by decide +kernel, by decide +kernel⟩, List.mem_of_getElem? (i := 336) (by decide +kernel), List.mem_of_getElem? (i := 850) (by decide +kernel), List.mem_of_getElem? (i := 851) (by decide +kernel)⟩
theorem lw_p30 : lw_okq (⟨"CapitalCase$Press", "wear", "(LCapitalCase$Town;II)Z"⟩, 2) := ⟨⟨by decide +kernel, by decide +kernel⟩, List.mem_of_getElem? (i := 323) (by decide +kernel), List.mem_of_getElem? (i := 909) (by decide +kernel), List.mem_of_getElem? (i := 910) (by decide +kernel)⟩
theorem lw_p31 : lw_okq (⟨"CapitalCase$Press", "steal", "(LCapitalCase$Town;I)V"⟩, 2) := ⟨⟨by decide +kernel, by decide +kernel⟩, List.mem_of_getElem? (i := 323) (by decide +kernel), List.mem_of_getElem? (i := 919) (by decide +kernel), List.mem_of_getElem? (i := 920) (by decide +kernel)⟩
def lw_privs_2 : List (MethodName × Nat) := [(⟨"CapitalCase$Parser", "parseUnit", "(I)Z"⟩, 10), (⟨"CapitalCase$Parser", "parseNumber", "(I)V"⟩, 10), (⟨"CapitalCase", "beginAnew", "()V"⟩, 16), (⟨"CapitalCase", "isCell", "(II)Z"⟩, 16), (⟨"CapitalCase", "isHouse", "(I)Z"⟩, 16), (⟨"CapitalCase$Judge", "lookAtHouse", "(LCapitalCase$Town;II)V"⟩, 3), (⟨"CapitalCase$Judge", "judge", "(I)I"⟩, 3), (⟨"CapitalCase", "isVerse", "(I)Z"⟩, 16), (⟨"CapitalCase", "standOf", "(I)I"⟩, 16), (⟨"CapitalCase$Judge", "lookAtVerse", "(I)V"⟩, 3), (⟨"CapitalCase", "isOpen", "(I)Z"⟩, 16), (⟨"CapitalCase", "couldBeSet", "(I)Z"⟩, 16), (⟨"CapitalCase$Planner", "orderGivers", "(LCapitalCase$Town;II)V"⟩, 12), (⟨"CapitalCase$Planner", "pick", "(II)I"⟩, 12), (⟨"CapitalCase$Press", "wear", "(LCapitalCase$Town;II)Z"⟩, 2), (⟨"CapitalCase$Press", "steal", "(LCapitalCase$Town;I)V"⟩, 2)]
theorem lw_r2 : ∀ q ∈ lw_privs_2, lw_okq q := List.forall_mem_cons.mpr ⟨lw_p16, List.forall_mem_cons.mpr ⟨lw_p17, List.forall_mem_cons.mpr ⟨lw_p18, List.forall_mem_cons.mpr ⟨lw_p19, List.forall_mem_cons.mpr ⟨lw_p20, List.forall_mem_cons.mpr ⟨lw_p21, List.forall_mem_cons.mpr ⟨lw_p22, List.forall_mem_cons.mpr ⟨lw_p23, List.forall_mem_cons.mpr ⟨lw_p24, List.forall_mem_cons.mpr ⟨lw_p25, List.forall_mem_cons.mpr ⟨lw_p26, List.forall_mem_cons.mpr ⟨lw_p27, List.forall_mem_cons.mpr ⟨lw_p28, List.forall_mem_cons.mpr ⟨lw_p29, List.forall_mem_cons.mpr ⟨lw_p30, List.forall_mem_cons.mpr ⟨lw_p31, fun _ h => absurd h List.not_mem_nil⟩⟩⟩⟩⟩⟩⟩⟩⟩⟩⟩⟩⟩⟩⟩⟩
theorem lw_p32 : lw_okq (⟨"CapitalCase$Planner", "search", "()V"⟩, 12) := ⟨⟨by decide +kernel, by decide +kernel⟩, List.mem_of_getElem? (i := 336) (by decide +kernel), List.mem_of_getElem? (i := 957) (by decide +kernel), List.mem_of_getElem? (i := 958) (by decide +kernel)⟩
theorem lw_p33 : lw_okq (⟨"CapitalCase$Planner", "keepIfMore", "(II)V"⟩, 12) := ⟨⟨by decide +kernel, by decide +kernel⟩, List.mem_of_getElem? (i := 336) (by decide +kernel), List.mem_of_getElem? (i := 962) (by decide +kernel), List.mem_of_getElem? (i := 963) (by decide +kernel)⟩
theorem lw_p34 : lw_okq (⟨"CapitalCase$TwoDays", "total", "([II)I"⟩, 9) := ⟨⟨by decide +kernel, by decide +kernel⟩, List.mem_of_getElem? (i := 386) (by decide +kernel), List.mem_of_getElem? (i := 994) (by decide +kernel), List.mem_of_getElem? (i := 995) (by decide +kernel)⟩
theorem lw_p35 : lw_okq (⟨"CapitalCase$TwoDays", "takeAll", "(I)Z"⟩, 9) := ⟨⟨by decide +kernel, by decide +kernel⟩, List.mem_of_getElem? (i := 386) (by decide +kernel), List.mem_of_getElem? (i := 998) (by decide +kernel), List.mem_of_getElem? (i := 999) (by decide +kernel)⟩
theorem lw_p36 : lw_okq (⟨"CapitalCase$TwoDays", "giveUpAll", "(I)V"⟩, 9) := ⟨⟨by decide +kernel, by decide +kernel⟩, List.mem_of_getElem? (i := 386) (by decide +kernel), List.mem_of_getElem? (i := 1003) (by decide +kernel), List.mem_of_getElem? (i := 1004) (by decide +kernel)⟩
theorem lw_p37 : lw_okq (⟨"CapitalCase$TwoDays", "passFirst", "(LCapitalCase$Town;I)V"⟩, 9) := ⟨⟨by decide +kernel, by decide +kernel⟩, List.mem_of_getElem? (i := 386) (by decide +kernel), List.mem_of_getElem? (i := 1008) (by decide +kernel), List.mem_of_getElem? (i := 1009) (by decide +kernel)⟩
theorem lw_p38 : lw_okq (⟨"CapitalCase$Trade", "freeElsewhere", "(LCapitalCase$Town;II)I"⟩, 3) := ⟨⟨by decide +kernel, by decide +kernel⟩, List.mem_of_getElem? (i := 426) (by decide +kernel), List.mem_of_getElem? (i := 1025) (by decide +kernel), List.mem_of_getElem? (i := 1026) (by decide +kernel)⟩
theorem lw_p39 : lw_okq (⟨"CapitalCase$Trade", "seekBetween", "(LCapitalCase$Town;II)V"⟩, 3) := ⟨⟨by decide +kernel, by decide +kernel⟩, List.mem_of_getElem? (i := 426) (by decide +kernel), List.mem_of_getElem? (i := 1038) (by decide +kernel), List.mem_of_getElem? (i := 1039) (by decide +kernel)⟩
theorem lw_p40 : lw_okq (⟨"CapitalCase$Trade", "gains", "(LCapitalCase$Town;III)Z"⟩, 3) := ⟨⟨by decide +kernel, by decide +kernel⟩, List.mem_of_getElem? (i := 426) (by decide +kernel), List.mem_of_getElem? (i := 1042) (by decide +kernel), List.mem_of_getElem? (i := 1043) (by decide +kernel)⟩
theorem lw_p41 : lw_okq (⟨"CapitalCase$Trade", "versesAlone", "(LCapitalCase$Town;III)I"⟩, 3) := ⟨⟨by decide +kernel, by decide +kernel⟩, List.mem_of_getElem? (i := 426) (by decide +kernel), List.mem_of_getElem? (i := 1046) (by decide +kernel), List.mem_of_getElem? (i := 1047) (by decide +kernel)⟩
theorem lw_p42 : lw_okq (⟨"CapitalCase", "heldSlots", "()I"⟩, 16) := ⟨⟨by decide +kernel, by decide +kernel⟩, List.mem_of_getElem? (i := 24) (by decide +kernel), List.mem_of_getElem? (i := 1139) (by decide +kernel), List.mem_of_getElem? (i := 1140) (by decide +kernel)⟩
theorem lw_p43 : lw_okq (⟨"CapitalCase", "settable", "()I"⟩, 16) := ⟨⟨by decide +kernel, by decide +kernel⟩, List.mem_of_getElem? (i := 24) (by decide +kernel), List.mem_of_getElem? (i := 1144) (by decide +kernel), List.mem_of_getElem? (i := 1145) (by decide +kernel)⟩
theorem lw_p44 : lw_okq (⟨"CapitalCaseModel", "plain", "(I)V"⟩, 70) := ⟨⟨by decide +kernel, by decide +kernel⟩, List.mem_of_getElem? (i := 1148) (by decide +kernel), List.mem_of_getElem? (i := 1154) (by decide +kernel), List.mem_of_getElem? (i := 1155) (by decide +kernel)⟩
theorem lw_p45 : lw_okq (⟨"CapitalCaseModel", "begins", "()V"⟩, 70) := ⟨⟨by decide +kernel, by decide +kernel⟩, List.mem_of_getElem? (i := 1148) (by decide +kernel), List.mem_of_getElem? (i := 1165) (by decide +kernel), List.mem_of_getElem? (i := 1166) (by decide +kernel)⟩
theorem lw_p46 : lw_okq (⟨"CapitalCaseModel", "keepsRow", "()V"⟩, 70) := ⟨⟨by decide +kernel, by decide +kernel⟩, List.mem_of_getElem? (i := 1148) (by decide +kernel), List.mem_of_getElem? (i := 1169) (by decide +kernel), List.mem_of_getElem? (i := 1170) (by decide +kernel)⟩
theorem lw_p47 : lw_okq (⟨"CapitalCaseModel", "put", "(I)V"⟩, 70) := ⟨⟨by decide +kernel, by decide +kernel⟩, List.mem_of_getElem? (i := 1148) (by decide +kernel), List.mem_of_getElem? (i := 1388) (by decide +kernel), List.mem_of_getElem? (i := 1389) (by decide +kernel)⟩
def lw_privs_3 : List (MethodName × Nat) := [(⟨"CapitalCase$Planner", "search", "()V"⟩, 12), (⟨"CapitalCase$Planner", "keepIfMore", "(II)V"⟩, 12), (⟨"CapitalCase$TwoDays", "total", "([II)I"⟩, 9), (⟨"CapitalCase$TwoDays", "takeAll", "(I)Z"⟩, 9), (⟨"CapitalCase$TwoDays", "giveUpAll", "(I)V"⟩, 9), (⟨"CapitalCase$TwoDays", "passFirst", "(LCapitalCase$Town;I)V"⟩, 9), (⟨"CapitalCase$Trade", "freeElsewhere", "(LCapitalCase$Town;II)I"⟩, 3), (⟨"CapitalCase$Trade", "seekBetween", "(LCapitalCase$Town;II)V"⟩, 3), (⟨"CapitalCase$Trade", "gains", "(LCapitalCase$Town;III)Z"⟩, 3), (⟨"CapitalCase$Trade", "versesAlone", "(LCapitalCase$Town;III)I"⟩, 3), (⟨"CapitalCase", "heldSlots", "()I"⟩, 16), (⟨"CapitalCase", "settable", "()I"⟩, 16), (⟨"CapitalCaseModel", "plain", "(I)V"⟩, 70), (⟨"CapitalCaseModel", "begins", "()V"⟩, 70), (⟨"CapitalCaseModel", "keepsRow", "()V"⟩, 70), (⟨"CapitalCaseModel", "put", "(I)V"⟩, 70)]
theorem lw_r3 : ∀ q ∈ lw_privs_3, lw_okq q := List.forall_mem_cons.mpr ⟨lw_p32, List.forall_mem_cons.mpr ⟨lw_p33, List.forall_mem_cons.mpr ⟨lw_p34, List.forall_mem_cons.mpr ⟨lw_p35, List.forall_mem_cons.mpr ⟨lw_p36, List.forall_mem_cons.mpr ⟨lw_p37, List.forall_mem_cons.mpr ⟨lw_p38, List.forall_mem_cons.mpr ⟨lw_p39, List.forall_mem_cons.mpr ⟨lw_p40, List.forall_mem_cons.mpr ⟨lw_p41, List.forall_mem_cons.mpr ⟨lw_p42, List.forall_mem_cons.mpr ⟨lw_p43, List.forall_mem_cons.mpr ⟨lw_p44, List.forall_mem_cons.mpr ⟨lw_p45, List.forall_mem_cons.mpr ⟨lw_p46, List.forall_mem_cons.mpr ⟨lw_p47, fun _ h => absurd h List.not_mem_nil⟩⟩⟩⟩⟩⟩⟩⟩⟩⟩⟩⟩⟩⟩⟩⟩
theorem lw_p48 : lw_okq (⟨"CapitalCaseModel", "cut", "()V"⟩, 70) := ⟨⟨by decide +kernel, by decide +kernel⟩, List.mem_of_getElem? (i := 1148) (by decide +kernel), List.mem_of_getElem? (i := 1400) (by decide +kernel), List.mem_of_getElem? (i := 1401) (by decide +kernel)⟩
theorem lw_p49 : lw_okq (⟨"CapitalCaseModel", "byteAt", "(I)I"⟩, 70) := ⟨⟨by decide +kernel, by decide +kernel⟩, List.mem_of_getElem? (i := 1148) (by decide +kernel), List.mem_of_getElem? (i := 1404) (by decide +kernel), List.mem_of_getElem? (i := 1405) (by decide +kernel)⟩
theorem lw_p50 : lw_okq (⟨"CapitalCaseModel", "token", "(IIIJ)V"⟩, 70) := ⟨⟨by decide +kernel, by decide +kernel⟩, List.mem_of_getElem? (i := 1148) (by decide +kernel), List.mem_of_getElem? (i := 1408) (by decide +kernel), List.mem_of_getElem? (i := 1409) (by decide +kernel)⟩
theorem lw_p51 : lw_okq (⟨"CapitalCaseModel", "sign", "(III)I"⟩, 70) := ⟨⟨by decide +kernel, by decide +kernel⟩, List.mem_of_getElem? (i := 1148) (by decide +kernel), List.mem_of_getElem? (i := 1418) (by decide +kernel), List.mem_of_getElem? (i := 1419) (by decide +kernel)⟩
theorem lw_p52 : lw_okq (⟨"CapitalCaseModel", "is", "(I)Z"⟩, 70) := ⟨⟨by decide +kernel, by decide +kernel⟩, List.mem_of_getElem? (i := 1148) (by decide +kernel), List.mem_of_getElem? (i := 1422) (by decide +kernel), List.mem_of_getElem? (i := 1423) (by decide +kernel)⟩
theorem lw_p53 : lw_okq (⟨"CapitalCaseModel", "tellOne", "()V"⟩, 70) := ⟨⟨by decide +kernel, by decide +kernel⟩, List.mem_of_getElem? (i := 1148) (by decide +kernel), List.mem_of_getElem? (i := 1426) (by decide +kernel), List.mem_of_getElem? (i := 1427) (by decide +kernel)⟩
theorem lw_p54 : lw_okq (⟨"CapitalCaseModel", "roomFor", "(II)V"⟩, 70) := ⟨⟨by decide +kernel, by decide +kernel⟩, List.mem_of_getElem? (i := 1148) (by decide +kernel), List.mem_of_getElem? (i := 1430) (by decide +kernel), List.mem_of_getElem? (i := 1431) (by decide +kernel)⟩
theorem lw_p55 : lw_okq (⟨"CapitalCaseModel", "fail", "(I)V"⟩, 70) := ⟨⟨by decide +kernel, by decide +kernel⟩, List.mem_of_getElem? (i := 1148) (by decide +kernel), List.mem_of_getElem? (i := 1434) (by decide +kernel), List.mem_of_getElem? (i := 1435) (by decide +kernel)⟩
theorem lw_p56 : lw_okq (⟨"CapitalCaseModel", "goesOn", "()V"⟩, 70) := ⟨⟨by decide +kernel, by decide +kernel⟩, List.mem_of_getElem? (i := 1148) (by decide +kernel), List.mem_of_getElem? (i := 1438) (by decide +kernel), List.mem_of_getElem? (i := 1439) (by decide +kernel)⟩
theorem lw_p57 : lw_okq (⟨"CapitalCaseModel", "tellHouse", "()V"⟩, 70) := ⟨⟨by decide +kernel, by decide +kernel⟩, List.mem_of_getElem? (i := 1148) (by decide +kernel), List.mem_of_getElem? (i := 1442) (by decide +kernel), List.mem_of_getElem? (i := 1443) (by decide +kernel)⟩
theorem lw_p58 : lw_okq (⟨"CapitalCaseModel", "named", "()I"⟩, 70) := ⟨⟨by decide +kernel, by decide +kernel⟩, List.mem_of_getElem? (i := 1148) (by decide +kernel), List.mem_of_getElem? (i := 1446) (by decide +kernel), List.mem_of_getElem? (i := 1447) (by decide +kernel)⟩
theorem lw_p59 : lw_okq (⟨"CapitalCaseModel", "must", "(I)V"⟩, 70) := ⟨⟨by decide +kernel, by decide +kernel⟩, List.mem_of_getElem? (i := 1148) (by decide +kernel), List.mem_of_getElem? (i := 1450) (by decide +kernel), List.mem_of_getElem? (i := 1451) (by decide +kernel)⟩
theorem lw_p60 : lw_okq (⟨"CapitalCaseModel", "wrong", "(II)V"⟩, 70) := ⟨⟨by decide +kernel, by decide +kernel⟩, List.mem_of_getElem? (i := 1148) (by decide +kernel), List.mem_of_getElem? (i := 1454) (by decide +kernel), List.mem_of_getElem? (i := 1455) (by decide +kernel)⟩
theorem lw_p61 : lw_okq (⟨"CapitalCaseModel", "takesLetters", "()V"⟩, 70) := ⟨⟨by decide +kernel, by decide +kernel⟩, List.mem_of_getElem? (i := 1148) (by decide +kernel), List.mem_of_getElem? (i := 1458) (by decide +kernel), List.mem_of_getElem? (i := 1459) (by decide +kernel)⟩
theorem lw_p62 : lw_okq (⟨"CapitalCaseModel", "ends", "(I)V"⟩, 70) := ⟨⟨by decide +kernel, by decide +kernel⟩, List.mem_of_getElem? (i := 1148) (by decide +kernel), List.mem_of_getElem? (i := 1468) (by decide +kernel), List.mem_of_getElem? (i := 1469) (by decide +kernel)⟩
theorem lw_p63 : lw_okq (⟨"CapitalCaseModel", "tellVerse", "()V"⟩, 70) := ⟨⟨by decide +kernel, by decide +kernel⟩, List.mem_of_getElem? (i := 1148) (by decide +kernel), List.mem_of_getElem? (i := 1472) (by decide +kernel), List.mem_of_getElem? (i := 1473) (by decide +kernel)⟩
def lw_privs_4 : List (MethodName × Nat) := [(⟨"CapitalCaseModel", "cut", "()V"⟩, 70), (⟨"CapitalCaseModel", "byteAt", "(I)I"⟩, 70), (⟨"CapitalCaseModel", "token", "(IIIJ)V"⟩, 70), (⟨"CapitalCaseModel", "sign", "(III)I"⟩, 70), (⟨"CapitalCaseModel", "is", "(I)Z"⟩, 70), (⟨"CapitalCaseModel", "tellOne", "()V"⟩, 70), (⟨"CapitalCaseModel", "roomFor", "(II)V"⟩, 70), (⟨"CapitalCaseModel", "fail", "(I)V"⟩, 70), (⟨"CapitalCaseModel", "goesOn", "()V"⟩, 70), (⟨"CapitalCaseModel", "tellHouse", "()V"⟩, 70), (⟨"CapitalCaseModel", "named", "()I"⟩, 70), (⟨"CapitalCaseModel", "must", "(I)V"⟩, 70), (⟨"CapitalCaseModel", "wrong", "(II)V"⟩, 70), (⟨"CapitalCaseModel", "takesLetters", "()V"⟩, 70), (⟨"CapitalCaseModel", "ends", "(I)V"⟩, 70), (⟨"CapitalCaseModel", "tellVerse", "()V"⟩, 70)]
theorem lw_r4 : ∀ q ∈ lw_privs_4, lw_okq q := List.forall_mem_cons.mpr ⟨lw_p48, List.forall_mem_cons.mpr ⟨lw_p49, List.forall_mem_cons.mpr ⟨lw_p50, List.forall_mem_cons.mpr ⟨lw_p51, List.forall_mem_cons.mpr ⟨lw_p52, List.forall_mem_cons.mpr ⟨lw_p53, List.forall_mem_cons.mpr ⟨lw_p54, List.forall_mem_cons.mpr ⟨lw_p55, List.forall_mem_cons.mpr ⟨lw_p56, List.forall_mem_cons.mpr ⟨lw_p57, List.forall_mem_cons.mpr ⟨lw_p58, List.forall_mem_cons.mpr ⟨lw_p59, List.forall_mem_cons.mpr ⟨lw_p60, List.forall_mem_cons.mpr ⟨lw_p61, List.forall_mem_cons.mpr ⟨lw_p62, List.forall_mem_cons.mpr ⟨lw_p63, fun _ h => absurd h List.not_mem_nil⟩⟩⟩⟩⟩⟩⟩⟩⟩⟩⟩⟩⟩⟩⟩⟩
theorem lw_p64 : lw_okq (⟨"CapitalCaseModel", "bounded", "(II)I"⟩, 70) := ⟨⟨by decide +kernel, by decide +kernel⟩, List.mem_of_getElem? (i := 1148) (by decide +kernel), List.mem_of_getElem? (i := 1476) (by decide +kernel), List.mem_of_getElem? (i := 1477) (by decide +kernel)⟩
theorem lw_p65 : lw_okq (⟨"CapitalCaseModel", "toldInt", "(II)I"⟩, 70) := ⟨⟨by decide +kernel, by decide +kernel⟩, List.mem_of_getElem? (i := 1148) (by decide +kernel), List.mem_of_getElem? (i := 1480) (by decide +kernel), List.mem_of_getElem? (i := 1481) (by decide +kernel)⟩
theorem lw_p66 : lw_okq (⟨"CapitalCaseModel", "tellLaw", "(I)V"⟩, 70) := ⟨⟨by decide +kernel, by decide +kernel⟩, List.mem_of_getElem? (i := 1148) (by decide +kernel), List.mem_of_getElem? (i := 1484) (by decide +kernel), List.mem_of_getElem? (i := 1485) (by decide +kernel)⟩
theorem lw_p67 : lw_okq (⟨"CapitalCaseModel", "expression", "()V"⟩, 70) := ⟨⟨by decide +kernel, by decide +kernel⟩, List.mem_of_getElem? (i := 1148) (by decide +kernel), List.mem_of_getElem? (i := 1488) (by decide +kernel), List.mem_of_getElem? (i := 1489) (by decide +kernel)⟩
theorem lw_p68 : lw_okq (⟨"CapitalCaseModel", "unit", "()V"⟩, 70) := ⟨⟨by decide +kernel, by decide +kernel⟩, List.mem_of_getElem? (i := 1148) (by decide +kernel), List.mem_of_getElem? (i := 1492) (by decide +kernel), List.mem_of_getElem? (i := 1493) (by decide +kernel)⟩
theorem lw_p69 : lw_okq (⟨"CapitalCaseModel", "emit", "(II)V"⟩, 70) := ⟨⟨by decide +kernel, by decide +kernel⟩, List.mem_of_getElem? (i := 1148) (by decide +kernel), List.mem_of_getElem? (i := 1496) (by decide +kernel), List.mem_of_getElem? (i := 1497) (by decide +kernel)⟩
theorem lw_p70 : lw_okq (⟨"CapitalCaseModel", "comesOut", "(Z)V"⟩, 70) := ⟨⟨by decide +kernel, by decide +kernel⟩, List.mem_of_getElem? (i := 1148) (by decide +kernel), List.mem_of_getElem? (i := 1500) (by decide +kernel), List.mem_of_getElem? (i := 1501) (by decide +kernel)⟩
theorem lw_p71 : lw_okq (⟨"CapitalCaseModel", "term", "()V"⟩, 70) := ⟨⟨by decide +kernel, by decide +kernel⟩, List.mem_of_getElem? (i := 1148) (by decide +kernel), List.mem_of_getElem? (i := 1504) (by decide +kernel), List.mem_of_getElem? (i := 1505) (by decide +kernel)⟩
theorem lw_p72 : lw_okq (⟨"CapitalCaseModel", "isHouse", "(I)Z"⟩, 70) := ⟨⟨by decide +kernel, by decide +kernel⟩, List.mem_of_getElem? (i := 1148) (by decide +kernel), List.mem_of_getElem? (i := 1516) (by decide +kernel), List.mem_of_getElem? (i := 1517) (by decide +kernel)⟩
theorem lw_p73 : lw_okq (⟨"CapitalCaseModel", "copies", "()V"⟩, 70) := ⟨⟨by decide +kernel, by decide +kernel⟩, List.mem_of_getElem? (i := 1148) (by decide +kernel), List.mem_of_getElem? (i := 1526) (by decide +kernel), List.mem_of_getElem? (i := 1527) (by decide +kernel)⟩
theorem lw_p74 : lw_okq (⟨"CapitalCaseModel", "freeOf", "(II)I"⟩, 70) := ⟨⟨by decide +kernel, by decide +kernel⟩, List.mem_of_getElem? (i := 1148) (by decide +kernel), List.mem_of_getElem? (i := 1530) (by decide +kernel), List.mem_of_getElem? (i := 1531) (by decide +kernel)⟩
theorem lw_p75 : lw_okq (⟨"CapitalCaseModel", "lentOut", "(II)I"⟩, 70) := ⟨⟨by decide +kernel, by decide +kernel⟩, List.mem_of_getElem? (i := 1148) (by decide +kernel), List.mem_of_getElem? (i := 1534) (by decide +kernel), List.mem_of_getElem? (i := 1535) (by decide +kernel)⟩
theorem lw_p76 : lw_okq (⟨"CapitalCaseModel", "lentTo", "(II)I"⟩, 70) := ⟨⟨by decide +kernel, by decide +kernel⟩, List.mem_of_getElem? (i := 1148) (by decide +kernel), List.mem_of_getElem? (i := 1538) (by decide +kernel), List.mem_of_getElem? (i := 1539) (by decide +kernel)⟩
theorem lw_p77 : lw_okq (⟨"CapitalCaseModel", "wearsOf", "(II)I"⟩, 70) := ⟨⟨by decide +kernel, by decide +kernel⟩, List.mem_of_getElem? (i := 1148) (by decide +kernel), List.mem_of_getElem? (i := 1542) (by decide +kernel), List.mem_of_getElem? (i := 1543) (by decide +kernel)⟩
theorem lw_p78 : lw_okq (⟨"CapitalCaseModel", "looksAt", "(II)V"⟩, 70) := ⟨⟨by decide +kernel, by decide +kernel⟩, List.mem_of_getElem? (i := 1148) (by decide +kernel), List.mem_of_getElem? (i := 1546) (by decide +kernel), List.mem_of_getElem? (i := 1547) (by decide +kernel)⟩
theorem lw_p79 : lw_okq (⟨"CapitalCaseModel", "looks", "()V"⟩, 70) := ⟨⟨by decide +kernel, by decide +kernel⟩, List.mem_of_getElem? (i := 1148) (by decide +kernel), List.mem_of_getElem? (i := 1550) (by decide +kernel), List.mem_of_getElem? (i := 1551) (by decide +kernel)⟩
def lw_privs_5 : List (MethodName × Nat) := [(⟨"CapitalCaseModel", "bounded", "(II)I"⟩, 70), (⟨"CapitalCaseModel", "toldInt", "(II)I"⟩, 70), (⟨"CapitalCaseModel", "tellLaw", "(I)V"⟩, 70), (⟨"CapitalCaseModel", "expression", "()V"⟩, 70), (⟨"CapitalCaseModel", "unit", "()V"⟩, 70), (⟨"CapitalCaseModel", "emit", "(II)V"⟩, 70), (⟨"CapitalCaseModel", "comesOut", "(Z)V"⟩, 70), (⟨"CapitalCaseModel", "term", "()V"⟩, 70), (⟨"CapitalCaseModel", "isHouse", "(I)Z"⟩, 70), (⟨"CapitalCaseModel", "copies", "()V"⟩, 70), (⟨"CapitalCaseModel", "freeOf", "(II)I"⟩, 70), (⟨"CapitalCaseModel", "lentOut", "(II)I"⟩, 70), (⟨"CapitalCaseModel", "lentTo", "(II)I"⟩, 70), (⟨"CapitalCaseModel", "wearsOf", "(II)I"⟩, 70), (⟨"CapitalCaseModel", "looksAt", "(II)V"⟩, 70), (⟨"CapitalCaseModel", "looks", "()V"⟩, 70)]
theorem lw_r5 : ∀ q ∈ lw_privs_5, lw_okq q := List.forall_mem_cons.mpr ⟨lw_p64, List.forall_mem_cons.mpr ⟨lw_p65, List.forall_mem_cons.mpr ⟨lw_p66, List.forall_mem_cons.mpr ⟨lw_p67, List.forall_mem_cons.mpr ⟨lw_p68, List.forall_mem_cons.mpr ⟨lw_p69, List.forall_mem_cons.mpr ⟨lw_p70, List.forall_mem_cons.mpr ⟨lw_p71, List.forall_mem_cons.mpr ⟨lw_p72, List.forall_mem_cons.mpr ⟨lw_p73, List.forall_mem_cons.mpr ⟨lw_p74, List.forall_mem_cons.mpr ⟨lw_p75, List.forall_mem_cons.mpr ⟨lw_p76, List.forall_mem_cons.mpr ⟨lw_p77, List.forall_mem_cons.mpr ⟨lw_p78, List.forall_mem_cons.mpr ⟨lw_p79, fun _ h => absurd h List.not_mem_nil⟩⟩⟩⟩⟩⟩⟩⟩⟩⟩⟩⟩⟩⟩⟩⟩
theorem lw_p80 : lw_okq (⟨"CapitalCaseModel", "lawTells", "(II)I"⟩, 70) := ⟨⟨by decide +kernel, by decide +kernel⟩, List.mem_of_getElem? (i := 1148) (by decide +kernel), List.mem_of_getElem? (i := 1554) (by decide +kernel), List.mem_of_getElem? (i := 1555) (by decide +kernel)⟩
theorem lw_p81 : lw_okq (⟨"CapitalCaseModel", "termOf", "(II)I"⟩, 70) := ⟨⟨by decide +kernel, by decide +kernel⟩, List.mem_of_getElem? (i := 1148) (by decide +kernel), List.mem_of_getElem? (i := 1558) (by decide +kernel), List.mem_of_getElem? (i := 1559) (by decide +kernel)⟩
theorem lw_p82 : lw_okq (⟨"CapitalCaseModel", "isVerse", "(I)Z"⟩, 70) := ⟨⟨by decide +kernel, by decide +kernel⟩, List.mem_of_getElem? (i := 1148) (by decide +kernel), List.mem_of_getElem? (i := 1569) (by decide +kernel), List.mem_of_getElem? (i := 1570) (by decide +kernel)⟩
theorem lw_p83 : lw_okq (⟨"CapitalCaseModel", "paysOf", "(I)I"⟩, 70) := ⟨⟨by decide +kernel, by decide +kernel⟩, List.mem_of_getElem? (i := 1148) (by decide +kernel), List.mem_of_getElem? (i := 1573) (by decide +kernel), List.mem_of_getElem? (i := 1574) (by decide +kernel)⟩
theorem lw_p84 : lw_okq (⟨"CapitalCaseModel", "looksFor", "(I)V"⟩, 70) := ⟨⟨by decide +kernel, by decide +kernel⟩, List.mem_of_getElem? (i := 1148) (by decide +kernel), List.mem_of_getElem? (i := 1577) (by decide +kernel), List.mem_of_getElem? (i := 1578) (by decide +kernel)⟩
theorem lw_p85 : lw_okq (⟨"CapitalCaseModel", "rankOf", "(III)I"⟩, 70) := ⟨⟨by decide +kernel, by decide +kernel⟩, List.mem_of_getElem? (i := 1148) (by decide +kernel), List.mem_of_getElem? (i := 1590) (by decide +kernel), List.mem_of_getElem? (i := 1591) (by decide +kernel)⟩
theorem lw_p86 : lw_okq (⟨"CapitalCaseModel", "givesLeave", "(III)Z"⟩, 70) := ⟨⟨by decide +kernel, by decide +kernel⟩, List.mem_of_getElem? (i := 1148) (by decide +kernel), List.mem_of_getElem? (i := 1594) (by decide +kernel), List.mem_of_getElem? (i := 1595) (by decide +kernel)⟩
theorem lw_p87 : lw_okq (⟨"CapitalCaseModel", "isOpen", "(I)Z"⟩, 70) := ⟨⟨by decide +kernel, by decide +kernel⟩, List.mem_of_getElem? (i := 1148) (by decide +kernel), List.mem_of_getElem? (i := 1602) (by decide +kernel), List.mem_of_getElem? (i := 1603) (by decide +kernel)⟩
theorem lw_p88 : lw_okq (⟨"CapitalCaseModel", "sets", "(I)Z"⟩, 70) := ⟨⟨by decide +kernel, by decide +kernel⟩, List.mem_of_getElem? (i := 1148) (by decide +kernel), List.mem_of_getElem? (i := 1606) (by decide +kernel), List.mem_of_getElem? (i := 1607) (by decide +kernel)⟩
theorem lw_p89 : lw_okq (⟨"CapitalCaseModel", "giverOf", "(II)I"⟩, 70) := ⟨⟨by decide +kernel, by decide +kernel⟩, List.mem_of_getElem? (i := 1148) (by decide +kernel), List.mem_of_getElem? (i := 1610) (by decide +kernel), List.mem_of_getElem? (i := 1611) (by decide +kernel)⟩
theorem lw_p90 : lw_okq (⟨"CapitalCaseModel", "clears", "(I)V"⟩, 70) := ⟨⟨by decide +kernel, by decide +kernel⟩, List.mem_of_getElem? (i := 1148) (by decide +kernel), List.mem_of_getElem? (i := 1614) (by decide +kernel), List.mem_of_getElem? (i := 1615) (by decide +kernel)⟩
theorem lw_p91 : lw_okq (⟨"CapitalCaseModel", "records", "()V"⟩, 70) := ⟨⟨by decide +kernel, by decide +kernel⟩, List.mem_of_getElem? (i := 1148) (by decide +kernel), List.mem_of_getElem? (i := 1618) (by decide +kernel), List.mem_of_getElem? (i := 1619) (by decide +kernel)⟩
theorem lw_p92 : lw_okq (⟨"CapitalCaseModel", "areTwo", "(III)Z"⟩, 70) := ⟨⟨by decide +kernel, by decide +kernel⟩, List.mem_of_getElem? (i := 1148) (by decide +kernel), List.mem_of_getElem? (i := 1630) (by decide +kernel), List.mem_of_getElem? (i := 1631) (by decide +kernel)⟩
theorem lw_p93 : lw_okq (⟨"CapitalCaseModel", "goes", "(I)V"⟩, 70) := ⟨⟨by decide +kernel, by decide +kernel⟩, List.mem_of_getElem? (i := 1148) (by decide +kernel), List.mem_of_getElem? (i := 1645) (by decide +kernel), List.mem_of_getElem? (i := 1646) (by decide +kernel)⟩
theorem lw_p94 : lw_okq (⟨"CapitalCaseModel", "dayGoes", "()V"⟩, 70) := ⟨⟨by decide +kernel, by decide +kernel⟩, List.mem_of_getElem? (i := 1148) (by decide +kernel), List.mem_of_getElem? (i := 1649) (by decide +kernel), List.mem_of_getElem? (i := 1650) (by decide +kernel)⟩
theorem lw_p95 : lw_okq (⟨"CapitalCaseModel", "wears", "(I)V"⟩, 70) := ⟨⟨by decide +kernel, by decide +kernel⟩, List.mem_of_getElem? (i := 1148) (by decide +kernel), List.mem_of_getElem? (i := 1653) (by decide +kernel), List.mem_of_getElem? (i := 1654) (by decide +kernel)⟩
def lw_privs_6 : List (MethodName × Nat) := [(⟨"CapitalCaseModel", "lawTells", "(II)I"⟩, 70), (⟨"CapitalCaseModel", "termOf", "(II)I"⟩, 70), (⟨"CapitalCaseModel", "isVerse", "(I)Z"⟩, 70), (⟨"CapitalCaseModel", "paysOf", "(I)I"⟩, 70), (⟨"CapitalCaseModel", "looksFor", "(I)V"⟩, 70), (⟨"CapitalCaseModel", "rankOf", "(III)I"⟩, 70), (⟨"CapitalCaseModel", "givesLeave", "(III)Z"⟩, 70), (⟨"CapitalCaseModel", "isOpen", "(I)Z"⟩, 70), (⟨"CapitalCaseModel", "sets", "(I)Z"⟩, 70), (⟨"CapitalCaseModel", "giverOf", "(II)I"⟩, 70), (⟨"CapitalCaseModel", "clears", "(I)V"⟩, 70), (⟨"CapitalCaseModel", "records", "()V"⟩, 70), (⟨"CapitalCaseModel", "areTwo", "(III)Z"⟩, 70), (⟨"CapitalCaseModel", "goes", "(I)V"⟩, 70), (⟨"CapitalCaseModel", "dayGoes", "()V"⟩, 70), (⟨"CapitalCaseModel", "wears", "(I)V"⟩, 70)]
theorem lw_r6 : ∀ q ∈ lw_privs_6, lw_okq q := List.forall_mem_cons.mpr ⟨lw_p80, List.forall_mem_cons.mpr ⟨lw_p81, List.forall_mem_cons.mpr ⟨lw_p82, List.forall_mem_cons.mpr ⟨lw_p83, List.forall_mem_cons.mpr ⟨lw_p84, List.forall_mem_cons.mpr ⟨lw_p85, List.forall_mem_cons.mpr ⟨lw_p86, List.forall_mem_cons.mpr ⟨lw_p87, List.forall_mem_cons.mpr ⟨lw_p88, List.forall_mem_cons.mpr ⟨lw_p89, List.forall_mem_cons.mpr ⟨lw_p90, List.forall_mem_cons.mpr ⟨lw_p91, List.forall_mem_cons.mpr ⟨lw_p92, List.forall_mem_cons.mpr ⟨lw_p93, List.forall_mem_cons.mpr ⟨lw_p94, List.forall_mem_cons.mpr ⟨lw_p95, fun _ h => absurd h List.not_mem_nil⟩⟩⟩⟩⟩⟩⟩⟩⟩⟩⟩⟩⟩⟩⟩⟩
theorem lw_p96 : lw_okq (⟨"CapitalCaseModel", "areThieves", "()Z"⟩, 70) := ⟨⟨by decide +kernel, by decide +kernel⟩, List.mem_of_getElem? (i := 1148) (by decide +kernel), List.mem_of_getElem? (i := 1657) (by decide +kernel), List.mem_of_getElem? (i := 1658) (by decide +kernel)⟩
theorem lw_p97 : lw_okq (⟨"CapitalCaseModel", "lotOf", "(II)I"⟩, 70) := ⟨⟨by decide +kernel, by decide +kernel⟩, List.mem_of_getElem? (i := 1148) (by decide +kernel), List.mem_of_getElem? (i := 1661) (by decide +kernel), List.mem_of_getElem? (i := 1662) (by decide +kernel)⟩
theorem lw_p98 : lw_okq (⟨"CapitalCaseModel", "thievesCome", "()V"⟩, 70) := ⟨⟨by decide +kernel, by decide +kernel⟩, List.mem_of_getElem? (i := 1148) (by decide +kernel), List.mem_of_getElem? (i := 1669) (by decide +kernel), List.mem_of_getElem? (i := 1670) (by decide +kernel)⟩
theorem lw_p99 : lw_okq (⟨"CapitalCaseModel", "findsBest", "()V"⟩, 70) := ⟨⟨by decide +kernel, by decide +kernel⟩, List.mem_of_getElem? (i := 1148) (by decide +kernel), List.mem_of_getElem? (i := 1685) (by decide +kernel), List.mem_of_getElem? (i := 1686) (by decide +kernel)⟩
theorem lw_p100 : lw_okq (⟨"CapitalCaseModel", "openBits", "()I"⟩, 70) := ⟨⟨by decide +kernel, by decide +kernel⟩, List.mem_of_getElem? (i := 1148) (by decide +kernel), List.mem_of_getElem? (i := 1689) (by decide +kernel), List.mem_of_getElem? (i := 1690) (by decide +kernel)⟩
theorem lw_p101 : lw_okq (⟨"CapitalCaseModel", "keepsAhead", "()V"⟩, 70) := ⟨⟨by decide +kernel, by decide +kernel⟩, List.mem_of_getElem? (i := 1148) (by decide +kernel), List.mem_of_getElem? (i := 1693) (by decide +kernel), List.mem_of_getElem? (i := 1694) (by decide +kernel)⟩
theorem lw_p102 : lw_okq (⟨"CapitalCaseModel", "canSet", "(I)Z"⟩, 70) := ⟨⟨by decide +kernel, by decide +kernel⟩, List.mem_of_getElem? (i := 1148) (by decide +kernel), List.mem_of_getElem? (i := 1697) (by decide +kernel), List.mem_of_getElem? (i := 1698) (by decide +kernel)⟩
theorem lw_p103 : lw_okq (⟨"CapitalCaseModel", "firstDay", "(I)I"⟩, 70) := ⟨⟨by decide +kernel, by decide +kernel⟩, List.mem_of_getElem? (i := 1148) (by decide +kernel), List.mem_of_getElem? (i := 1713) (by decide +kernel), List.mem_of_getElem? (i := 1714) (by decide +kernel)⟩
theorem lw_p104 : lw_okq (⟨"CapitalCaseModel", "needsOf", "(II)I"⟩, 70) := ⟨⟨by decide +kernel, by decide +kernel⟩, List.mem_of_getElem? (i := 1148) (by decide +kernel), List.mem_of_getElem? (i := 1721) (by decide +kernel), List.mem_of_getElem? (i := 1722) (by decide +kernel)⟩
theorem lw_p105 : lw_okq (⟨"CapitalCaseModel", "isBargain", "(IIII)Z"⟩, 70) := ⟨⟨by decide +kernel, by decide +kernel⟩, List.mem_of_getElem? (i := 1148) (by decide +kernel), List.mem_of_getElem? (i := 1729) (by decide +kernel), List.mem_of_getElem? (i := 1730) (by decide +kernel)⟩
theorem lw_p106 : lw_okq (⟨"CapitalCaseModel", "ownVerses", "(III)I"⟩, 70) := ⟨⟨by decide +kernel, by decide +kernel⟩, List.mem_of_getElem? (i := 1148) (by decide +kernel), List.mem_of_getElem? (i := 1733) (by decide +kernel), List.mem_of_getElem? (i := 1734) (by decide +kernel)⟩
theorem lw_p107 : lw_okq (⟨"CapitalCaseModel", "whoseBits", "(I)I"⟩, 70) := ⟨⟨by decide +kernel, by decide +kernel⟩, List.mem_of_getElem? (i := 1148) (by decide +kernel), List.mem_of_getElem? (i := 1777) (by decide +kernel), List.mem_of_getElem? (i := 1778) (by decide +kernel)⟩
theorem lw_p108 : lw_okq (⟨"CapitalCaseModel", "versesSo", "(II)I"⟩, 70) := ⟨⟨by decide +kernel, by decide +kernel⟩, List.mem_of_getElem? (i := 1148) (by decide +kernel), List.mem_of_getElem? (i := 1800) (by decide +kernel), List.mem_of_getElem? (i := 1801) (by decide +kernel)⟩
theorem lw_p109 : lw_okq (⟨"CapitalCaseModel", "sumNow", "(II)I"⟩, 70) := ⟨⟨by decide +kernel, by decide +kernel⟩, List.mem_of_getElem? (i := 1148) (by decide +kernel), List.mem_of_getElem? (i := 1804) (by decide +kernel), List.mem_of_getElem? (i := 1805) (by decide +kernel)⟩
def lw_privs_7 : List (MethodName × Nat) := [(⟨"CapitalCaseModel", "areThieves", "()Z"⟩, 70), (⟨"CapitalCaseModel", "lotOf", "(II)I"⟩, 70), (⟨"CapitalCaseModel", "thievesCome", "()V"⟩, 70), (⟨"CapitalCaseModel", "findsBest", "()V"⟩, 70), (⟨"CapitalCaseModel", "openBits", "()I"⟩, 70), (⟨"CapitalCaseModel", "keepsAhead", "()V"⟩, 70), (⟨"CapitalCaseModel", "canSet", "(I)Z"⟩, 70), (⟨"CapitalCaseModel", "firstDay", "(I)I"⟩, 70), (⟨"CapitalCaseModel", "needsOf", "(II)I"⟩, 70), (⟨"CapitalCaseModel", "isBargain", "(IIII)Z"⟩, 70), (⟨"CapitalCaseModel", "ownVerses", "(III)I"⟩, 70), (⟨"CapitalCaseModel", "whoseBits", "(I)I"⟩, 70), (⟨"CapitalCaseModel", "versesSo", "(II)I"⟩, 70), (⟨"CapitalCaseModel", "sumNow", "(II)I"⟩, 70)]
theorem lw_r7 : ∀ q ∈ lw_privs_7, lw_okq q := List.forall_mem_cons.mpr ⟨lw_p96, List.forall_mem_cons.mpr ⟨lw_p97, List.forall_mem_cons.mpr ⟨lw_p98, List.forall_mem_cons.mpr ⟨lw_p99, List.forall_mem_cons.mpr ⟨lw_p100, List.forall_mem_cons.mpr ⟨lw_p101, List.forall_mem_cons.mpr ⟨lw_p102, List.forall_mem_cons.mpr ⟨lw_p103, List.forall_mem_cons.mpr ⟨lw_p104, List.forall_mem_cons.mpr ⟨lw_p105, List.forall_mem_cons.mpr ⟨lw_p106, List.forall_mem_cons.mpr ⟨lw_p107, List.forall_mem_cons.mpr ⟨lw_p108, List.forall_mem_cons.mpr ⟨lw_p109, fun _ h => absurd h List.not_mem_nil⟩⟩⟩⟩⟩⟩⟩⟩⟩⟩⟩⟩⟩⟩
def lw_privs : List (MethodName × Nat) := lw_privs_1 ++ (lw_privs_2 ++ (lw_privs_3 ++ (lw_privs_4 ++ (lw_privs_5 ++ (lw_privs_6 ++ (lw_privs_7))))))
def lw_tbl : List Cond := k2_sels lw_privs ++ tables_1
theorem lw_privs_ok : ∀ q ∈ lw_privs, lw_okq q := by
  show ∀ q ∈ lw_privs_1 ++ (lw_privs_2 ++ (lw_privs_3 ++ (lw_privs_4 ++ (lw_privs_5 ++ (lw_privs_6 ++ (lw_privs_7)))))), lw_okq q
  exact List.forall_mem_append.mpr ⟨lw_r1, List.forall_mem_append.mpr ⟨lw_r2, List.forall_mem_append.mpr ⟨lw_r3, List.forall_mem_append.mpr ⟨lw_r4, List.forall_mem_append.mpr ⟨lw_r5, List.forall_mem_append.mpr ⟨lw_r6, lw_r7⟩⟩⟩⟩⟩⟩
end
section
theorem goodIn_r {big : List Cond} (ws : List Cond) (ps : List Nat) (hp : ws = ps.filterMap (fun i => big[i]?)) (h : ws.all goodWord = true) : GoodIn big ws := by
  intro w hw
  have h1 := List.all_eq_true.mp h w hw
  rw [hp] at hw
  obtain ⟨i, -, hi⟩ := List.mem_filterMap.mp hw
  have hm : w ∈ big := by first | exact List.mem_of_getElem? hi | exact List.getElem?_mem hi
  exact ⟨hm, good_of_word h1⟩
def RX0 : String := "CapitalCase$History"
def TX0 : u_T := fun k => match k with
  | 0 => ("CapitalCase$History", "rows", "[LCapitalCase$Town;", true)
  | 1 => ("CapitalCase$History", "next", "I", false)
  | _ => ("CapitalCase$History", "count", "I", false)
def tyX0 : Nat → FieldType := fun k => match k with
  | 0 => .array (.object "CapitalCase$Town")
  | 1 => .int
  | _ => .int
theorem nmX0 : ∀ a, a < 3 → ∀ b, b < 3 → a ≠ b → (TX0 a).2.1 ≠ (TX0 b).2.1 := by decide +kernel
theorem tyX0_ok : ∀ k, k < 3 → parseFieldDescriptor (TX0 k).2.2.1 = some (tyX0 k) := by decide +kernel
theorem inX0 : ∀ w ∈ u_ws RX0 TX0 3, w ∈ lw_tbl := fun w h => (goodIn_r (big := lw_tbl) (u_ws RX0 TX0 3) [388, 390, 392] (by decide +kernel) (by decide +kernel) w h).1
def RX1 : String := "CapitalCase$Judge"
def TX1 : u_T := fun k => match k with
  | 0 => ("CapitalCase$Judge", "script", "LCapitalCase$Script;", true)
  | 1 => ("CapitalCase$Judge", "vars", "[I", true)
  | _ => ("CapitalCase$Judge", "stack", "[I", true)
def tyX1 : Nat → FieldType := fun k => match k with
  | 0 => .object "CapitalCase$Script"
  | 1 => .array .int
  | _ => .array .int
theorem nmX1 : ∀ a, a < 3 → ∀ b, b < 3 → a ≠ b → (TX1 a).2.1 ≠ (TX1 b).2.1 := by decide +kernel
theorem tyX1_ok : ∀ k, k < 3 → parseFieldDescriptor (TX1 k).2.2.1 = some (tyX1 k) := by decide +kernel
theorem inX1 : ∀ w ∈ u_ws RX1 TX1 3, w ∈ lw_tbl := fun w h => (goodIn_r (big := lw_tbl) (u_ws RX1 TX1 3) [425, 427, 429] (by decide +kernel) (by decide +kernel) w h).1
def RX2 : String := "CapitalCase$Parser"
def TX2 : u_T := fun k => match k with
  | 0 => ("CapitalCase$Parser", "script", "LCapitalCase$Script;", true)
  | 1 => ("CapitalCase$Parser", "tokens", "LCapitalCase$Tokens;", true)
  | 2 => ("CapitalCase$Parser", "text", "[B", true)
  | 3 => ("CapitalCase$Parser", "at", "I", false)
  | 4 => ("CapitalCase$Parser", "fault", "I", false)
  | 5 => ("CapitalCase$Parser", "faultAt", "I", false)
  | 6 => ("CapitalCase$Parser", "laterFault", "I", false)
  | 7 => ("CapitalCase$Parser", "laterFaultAt", "I", false)
  | 8 => ("CapitalCase$Parser", "names", "[I", true)
  | _ => ("CapitalCase$Parser", "nameCount", "I", false)
def tyX2 : Nat → FieldType := fun k => match k with
  | 0 => .object "CapitalCase$Script"
  | 1 => .object "CapitalCase$Tokens"
  | 2 => .array .byte
  | 3 => .int
  | 4 => .int
  | 5 => .int
  | 6 => .int
  | 7 => .int
  | 8 => .array .int
  | _ => .int
theorem nmX2 : ∀ a, a < 10 → ∀ b, b < 10 → a ≠ b → (TX2 a).2.1 ≠ (TX2 b).2.1 := by decide +kernel
theorem tyX2_ok : ∀ k, k < 10 → parseFieldDescriptor (TX2 k).2.2.1 = some (tyX2 k) := by decide +kernel
theorem inX2 : ∀ w ∈ u_ws RX2 TX2 10, w ∈ lw_tbl := fun w h => (goodIn_r (big := lw_tbl) (u_ws RX2 TX2 10) [293, 295, 297, 299, 301, 303, 305, 307, 309, 311] (by decide +kernel) (by decide +kernel) w h).1
def RX3 : String := "CapitalCase$Planner"
def TX3 : u_T := fun k => match k with
  | 0 => ("CapitalCase$Planner", "script", "LCapitalCase$Script;", true)
  | 1 => ("CapitalCase$Planner", "judge", "LCapitalCase$Judge;", true)
  | 2 => ("CapitalCase$Planner", "free", "[I", true)
  | 3 => ("CapitalCase$Planner", "picks", "[I", true)
  | 4 => ("CapitalCase$Planner", "pays", "[I", true)
  | 5 => ("CapitalCase$Planner", "clashes", "I", false)
  | 6 => ("CapitalCase$Planner", "most", "I", false)
  | 7 => ("CapitalCase$Planner", "mask", "I", false)
  | 8 => ("CapitalCase$Planner", "looked", "I", false)
  | 9 => ("CapitalCase$Planner", "givers", "[I", true)
  | 10 => ("CapitalCase$Planner", "ranks", "[I", true)
  | _ => ("CapitalCase$Planner", "giverCount", "[I", true)
def tyX3 : Nat → FieldType := fun k => match k with
  | 0 => .object "CapitalCase$Script"
  | 1 => .object "CapitalCase$Judge"
  | 2 => .array .int
  | 3 => .array .int
  | 4 => .array .int
  | 5 => .int
  | 6 => .int
  | 7 => .int
  | 8 => .int
  | 9 => .array .int
  | 10 => .array .int
  | _ => .array .int
theorem nmX3 : ∀ a, a < 12 → ∀ b, b < 12 → a ≠ b → (TX3 a).2.1 ≠ (TX3 b).2.1 := by decide +kernel
theorem tyX3_ok : ∀ k, k < 12 → parseFieldDescriptor (TX3 k).2.2.1 = some (tyX3 k) := by decide +kernel
theorem inX3 : ∀ w ∈ u_ws RX3 TX3 12, w ∈ lw_tbl := fun w h => (goodIn_r (big := lw_tbl) (u_ws RX3 TX3 12) [470, 472, 474, 476, 478, 480, 482, 484, 486, 488, 490, 492] (by decide +kernel) (by decide +kernel) w h).1
def RX4 : String := "CapitalCase$Press"
def TX4 : u_T := fun k => match k with
  | 0 => ("CapitalCase$Press", "script", "LCapitalCase$Script;", true)
  | _ => ("CapitalCase$Press", "judge", "LCapitalCase$Judge;", true)
def tyX4 : Nat → FieldType := fun k => match k with
  | 0 => .object "CapitalCase$Script"
  | _ => .object "CapitalCase$Judge"
theorem nmX4 : ∀ a, a < 2 → ∀ b, b < 2 → a ≠ b → (TX4 a).2.1 ≠ (TX4 b).2.1 := by decide +kernel
theorem tyX4_ok : ∀ k, k < 2 → parseFieldDescriptor (TX4 k).2.2.1 = some (tyX4 k) := by decide +kernel
theorem inX4 : ∀ w ∈ u_ws RX4 TX4 2, w ∈ lw_tbl := fun w h => (goodIn_r (big := lw_tbl) (u_ws RX4 TX4 2) [440, 442] (by decide +kernel) (by decide +kernel) w h).1
def RX5 : String := "CapitalCase$Prints"
def TX5 : u_T := fun k => match k with
  | 0 => ("CapitalCase$Prints", "letters", "[I", true)
  | 1 => ("CapitalCase$Prints", "wears", "[I", true)
  | 2 => ("CapitalCase$Prints", "sos", "[Z", true)
  | _ => ("CapitalCase$Prints", "count", "I", false)
def tyX5 : Nat → FieldType := fun k => match k with
  | 0 => .array .int
  | 1 => .array .int
  | 2 => .array .boolean
  | _ => .int
theorem nmX5 : ∀ a, a < 4 → ∀ b, b < 4 → a ≠ b → (TX5 a).2.1 ≠ (TX5 b).2.1 := by decide +kernel
theorem tyX5_ok : ∀ k, k < 4 → parseFieldDescriptor (TX5 k).2.2.1 = some (tyX5 k) := by decide +kernel
theorem inX5 : ∀ w ∈ u_ws RX5 TX5 4, w ∈ lw_tbl := fun w h => (goodIn_r (big := lw_tbl) (u_ws RX5 TX5 4) [406, 408, 410, 412] (by decide +kernel) (by decide +kernel) w h).1
def RX6 : String := "CapitalCase$Script"
def TX6 : u_T := fun k => match k with
  | 0 => ("CapitalCase$Script", "houses", "I", false)
  | 1 => ("CapitalCase$Script", "verses", "I", false)
  | 2 => ("CapitalCase$Script", "spoils", "I", false)
  | 3 => ("CapitalCase$Script", "thieves", "I", false)
  | 4 => ("CapitalCase$Script", "seed", "I", false)
  | 5 => ("CapitalCase$Script", "pieces", "[I", true)
  | 6 => ("CapitalCase$Script", "value", "[I", true)
  | 7 => ("CapitalCase$Script", "due", "[I", true)
  | 8 => ("CapitalCase$Script", "wide", "[I", true)
  | 9 => ("CapitalCase$Script", "wanted", "[I", true)
  | 10 => ("CapitalCase$Script", "needs", "[I", true)
  | 11 => ("CapitalCase$Script", "lawStart", "[I", true)
  | 12 => ("CapitalCase$Script", "step", "[I", true)
  | 13 => ("CapitalCase$Script", "operand", "[I", true)
  | _ => ("CapitalCase$Script", "steps", "I", false)
def tyX6 : Nat → FieldType := fun k => match k with
  | 0 => .int
  | 1 => .int
  | 2 => .int
  | 3 => .int
  | 4 => .int
  | 5 => .array .int
  | 6 => .array .int
  | 7 => .array .int
  | 8 => .array .int
  | 9 => .array .int
  | 10 => .array .int
  | 11 => .array .int
  | 12 => .array .int
  | 13 => .array .int
  | _ => .int
theorem nmX6 : ∀ a, a < 15 → ∀ b, b < 15 → a ≠ b → (TX6 a).2.1 ≠ (TX6 b).2.1 := by decide +kernel
theorem tyX6_ok : ∀ k, k < 15 → parseFieldDescriptor (TX6 k).2.2.1 = some (tyX6 k) := by decide +kernel
theorem inX6 : ∀ w ∈ u_ws RX6 TX6 15, w ∈ lw_tbl := fun w h => (goodIn_r (big := lw_tbl) (u_ws RX6 TX6 15) [221, 223, 225, 227, 229, 231, 233, 235, 237, 239, 241, 243, 245, 247, 249] (by decide +kernel) (by decide +kernel) w h).1
def RX7 : String := "CapitalCase$Tokens"
def TX7 : u_T := fun k => match k with
  | 0 => ("CapitalCase$Tokens", "kind", "[I", true)
  | 1 => ("CapitalCase$Tokens", "place", "[I", true)
  | _ => ("CapitalCase$Tokens", "size", "[I", true)
def tyX7 : Nat → FieldType := fun k => match k with
  | 0 => .array .int
  | 1 => .array .int
  | _ => .array .int
theorem nmX7 : ∀ a, a < 3 → ∀ b, b < 3 → a ≠ b → (TX7 a).2.1 ≠ (TX7 b).2.1 := by decide +kernel
theorem tyX7_ok : ∀ k, k < 3 → parseFieldDescriptor (TX7 k).2.2.1 = some (tyX7 k) := by decide +kernel
theorem inX7 : ∀ w ∈ u_ws RX7 TX7 3, w ∈ lw_tbl := fun w h => (goodIn_r (big := lw_tbl) (u_ws RX7 TX7 3) [274, 276, 278] (by decide +kernel) (by decide +kernel) w h).1
def RX8 : String := "CapitalCase$Town"
def TX8 : u_T := fun k => match k with
  | 0 => ("CapitalCase$Town", "has", "[I", true)
  | 1 => ("CapitalCase$Town", "used", "[I", true)
  | 2 => ("CapitalCase$Town", "worn", "[I", true)
  | 3 => ("CapitalCase$Town", "lent", "[I", true)
  | 4 => ("CapitalCase$Town", "from", "[I", true)
  | 5 => ("CapitalCase$Town", "set", "I", false)
  | 6 => ("CapitalCase$Town", "done", "I", false)
  | 7 => ("CapitalCase$Town", "day", "I", false)
  | 8 => ("CapitalCase$Town", "paid", "I", false)
  | _ => ("CapitalCase$Town", "gone", "I", false)
def tyX8 : Nat → FieldType := fun k => match k with
  | 0 => .array .int
  | 1 => .array .int
  | 2 => .array .int
  | 3 => .array .int
  | 4 => .array .int
  | 5 => .int
  | 6 => .int
  | 7 => .int
  | 8 => .int
  | _ => .int
theorem nmX8 : ∀ a, a < 10 → ∀ b, b < 10 → a ≠ b → (TX8 a).2.1 ≠ (TX8 b).2.1 := by decide +kernel
theorem tyX8_ok : ∀ k, k < 10 → parseFieldDescriptor (TX8 k).2.2.1 = some (tyX8 k) := by decide +kernel
theorem inX8 : ∀ w ∈ u_ws RX8 TX8 10, w ∈ lw_tbl := fun w h => (goodIn_r (big := lw_tbl) (u_ws RX8 TX8 10) [355, 357, 359, 361, 363, 365, 367, 369, 371, 373] (by decide +kernel) (by decide +kernel) w h).1
def RX9 : String := "CapitalCase$Trade"
def TX9 : u_T := fun k => match k with
  | 0 => ("CapitalCase$Trade", "script", "LCapitalCase$Script;", true)
  | 1 => ("CapitalCase$Trade", "bargains", "I", false)
  | _ => ("CapitalCase$Trade", "first", "I", false)
def tyX9 : Nat → FieldType := fun k => match k with
  | 0 => .object "CapitalCase$Script"
  | 1 => .int
  | _ => .int
theorem nmX9 : ∀ a, a < 3 → ∀ b, b < 3 → a ≠ b → (TX9 a).2.1 ≠ (TX9 b).2.1 := by decide +kernel
theorem tyX9_ok : ∀ k, k < 3 → parseFieldDescriptor (TX9 k).2.2.1 = some (tyX9 k) := by decide +kernel
theorem inX9 : ∀ w ∈ u_ws RX9 TX9 3, w ∈ lw_tbl := fun w h => (goodIn_r (big := lw_tbl) (u_ws RX9 TX9 3) [546, 548, 550] (by decide +kernel) (by decide +kernel) w h).1
def RX10 : String := "CapitalCase$TwoDays"
def TX10 : u_T := fun k => match k with
  | 0 => ("CapitalCase$TwoDays", "script", "LCapitalCase$Script;", true)
  | 1 => ("CapitalCase$TwoDays", "judge", "LCapitalCase$Judge;", true)
  | 2 => ("CapitalCase$TwoDays", "press", "LCapitalCase$Press;", true)
  | 3 => ("CapitalCase$TwoDays", "first", "LCapitalCase$Planner;", true)
  | 4 => ("CapitalCase$TwoDays", "second", "LCapitalCase$Planner;", true)
  | 5 => ("CapitalCase$TwoDays", "after", "LCapitalCase$Town;", true)
  | 6 => ("CapitalCase$TwoDays", "most", "I", false)
  | 7 => ("CapitalCase$TwoDays", "mask", "I", false)
  | _ => ("CapitalCase$TwoDays", "paysLater", "[I", true)
def tyX10 : Nat → FieldType := fun k => match k with
  | 0 => .object "CapitalCase$Script"
  | 1 => .object "CapitalCase$Judge"
  | 2 => .object "CapitalCase$Press"
  | 3 => .object "CapitalCase$Planner"
  | 4 => .object "CapitalCase$Planner"
  | 5 => .object "CapitalCase$Town"
  | 6 => .int
  | 7 => .int
  | _ => .array .int
theorem nmX10 : ∀ a, a < 9 → ∀ b, b < 9 → a ≠ b → (TX10 a).2.1 ≠ (TX10 b).2.1 := by decide +kernel
theorem tyX10_ok : ∀ k, k < 9 → parseFieldDescriptor (TX10 k).2.2.1 = some (tyX10 k) := by decide +kernel
theorem inX10 : ∀ w ∈ u_ws RX10 TX10 9, w ∈ lw_tbl := fun w h => (goodIn_r (big := lw_tbl) (u_ws RX10 TX10 9) [516, 518, 520, 522, 524, 526, 528, 530, 532] (by decide +kernel) (by decide +kernel) w h).1
def RX11 : String := "CapitalCase"
def TX11 : u_T := fun k => match k with
  | 0 => ("CapitalCase", "tape", "[B", true)
  | 1 => ("CapitalCase", "tapeSize", "I", false)
  | 2 => ("CapitalCase", "faultPlace", "I", false)
  | 3 => ("CapitalCase", "script", "LCapitalCase$Script;", true)
  | 4 => ("CapitalCase", "parser", "LCapitalCase$Parser;", true)
  | 5 => ("CapitalCase", "town", "LCapitalCase$Town;", true)
  | 6 => ("CapitalCase", "scratch", "LCapitalCase$Town;", true)
  | 7 => ("CapitalCase", "history", "LCapitalCase$History;", true)
  | 8 => ("CapitalCase", "slots", "[LCapitalCase$Town;", true)
  | 9 => ("CapitalCase", "held", "[Z", true)
  | 10 => ("CapitalCase", "prints", "LCapitalCase$Prints;", true)
  | 11 => ("CapitalCase", "judge", "LCapitalCase$Judge;", true)
  | 12 => ("CapitalCase", "press", "LCapitalCase$Press;", true)
  | 13 => ("CapitalCase", "planner", "LCapitalCase$Planner;", true)
  | 14 => ("CapitalCase", "pairOfDays", "LCapitalCase$TwoDays;", true)
  | _ => ("CapitalCase", "trade", "LCapitalCase$Trade;", true)
def tyX11 : Nat → FieldType := fun k => match k with
  | 0 => .array .byte
  | 1 => .int
  | 2 => .int
  | 3 => .object "CapitalCase$Script"
  | 4 => .object "CapitalCase$Parser"
  | 5 => .object "CapitalCase$Town"
  | 6 => .object "CapitalCase$Town"
  | 7 => .object "CapitalCase$History"
  | 8 => .array (.object "CapitalCase$Town")
  | 9 => .array .boolean
  | 10 => .object "CapitalCase$Prints"
  | 11 => .object "CapitalCase$Judge"
  | 12 => .object "CapitalCase$Press"
  | 13 => .object "CapitalCase$Planner"
  | 14 => .object "CapitalCase$TwoDays"
  | _ => .object "CapitalCase$Trade"
theorem nmX11 : ∀ a, a < 16 → ∀ b, b < 16 → a ≠ b → (TX11 a).2.1 ≠ (TX11 b).2.1 := by decide +kernel
theorem tyX11_ok : ∀ k, k < 16 → parseFieldDescriptor (TX11 k).2.2.1 = some (tyX11 k) := by decide +kernel
theorem inX11 : ∀ w ∈ u_ws RX11 TX11 16, w ∈ lw_tbl := fun w h => (goodIn_r (big := lw_tbl) (u_ws RX11 TX11 16) [569, 571, 573, 575, 577, 579, 581, 583, 585, 587, 589, 591, 593, 595, 597, 599] (by decide +kernel) (by decide +kernel) w h).1
def RX12 : String := "CapitalCaseModel"
def TX12 : u_T := fun k => match k with
  | 0 => ("CapitalCaseModel", "thrown", "I", false)
  | 1 => ("CapitalCaseModel", "tape", "[B", true)
  | 2 => ("CapitalCaseModel", "taped", "I", false)
  | 3 => ("CapitalCaseModel", "text", "[B", true)
  | 4 => ("CapitalCaseModel", "size", "I", false)
  | 5 => ("CapitalCaseModel", "tKind", "[I", true)
  | 6 => ("CapitalCaseModel", "tPlace", "[I", true)
  | 7 => ("CapitalCaseModel", "tValue", "[I", true)
  | 8 => ("CapitalCaseModel", "tName", "[J", true)
  | 9 => ("CapitalCaseModel", "keys", "[J", true)
  | 10 => ("CapitalCaseModel", "tokens", "I", false)
  | 11 => ("CapitalCaseModel", "t", "I", false)
  | 12 => ("CapitalCaseModel", "open", "I", false)
  | 13 => ("CapitalCaseModel", "fault", "I", false)
  | 14 => ("CapitalCaseModel", "faultPlace", "I", false)
  | 15 => ("CapitalCaseModel", "worst", "I", false)
  | 16 => ("CapitalCaseModel", "worstPlace", "I", false)
  | 17 => ("CapitalCaseModel", "place", "I", false)
  | 18 => ("CapitalCaseModel", "live", "I", false)
  | 19 => ("CapitalCaseModel", "side", "I", false)
  | 20 => ("CapitalCaseModel", "names", "I", false)
  | 21 => ("CapitalCaseModel", "nameOf", "[J", true)
  | 22 => ("CapitalCaseModel", "houses", "[I", true)
  | 23 => ("CapitalCaseModel", "piecesTold", "[I", true)
  | 24 => ("CapitalCaseModel", "verses", "[I", true)
  | 25 => ("CapitalCaseModel", "longOf", "[I", true)
  | 26 => ("CapitalCaseModel", "wantsOf", "[I", true)
  | 27 => ("CapitalCaseModel", "valueOf", "[I", true)
  | 28 => ("CapitalCaseModel", "dueOf", "[I", true)
  | 29 => ("CapitalCaseModel", "spoils", "[I", true)
  | 30 => ("CapitalCaseModel", "thieves", "[I", true)
  | 31 => ("CapitalCaseModel", "seed", "[I", true)
  | 32 => ("CapitalCaseModel", "lawFirst", "[I", true)
  | 33 => ("CapitalCaseModel", "lawLast", "[I", true)
  | 34 => ("CapitalCaseModel", "branches", "I", false)
  | 35 => ("CapitalCaseModel", "hasTest", "[Z", true)
  | 36 => ("CapitalCaseModel", "testFrom", "[I", true)
  | 37 => ("CapitalCaseModel", "testMid", "[I", true)
  | 38 => ("CapitalCaseModel", "testTo", "[I", true)
  | 39 => ("CapitalCaseModel", "termTo", "[I", true)
  | 40 => ("CapitalCaseModel", "codes", "I", false)
  | 41 => ("CapitalCaseModel", "code", "[I", true)
  | 42 => ("CapitalCaseModel", "codeInt", "[I", true)
  | 43 => ("CapitalCaseModel", "letters", "[I", true)
  | 44 => ("CapitalCaseModel", "lettersMany", "I", false)
  | 45 => ("CapitalCaseModel", "waits", "[I", true)
  | 46 => ("CapitalCaseModel", "waiting", "I", false)
  | 47 => ("CapitalCaseModel", "variables", "[I", true)
  | 48 => ("CapitalCaseModel", "pile", "[I", true)
  | 49 => ("CapitalCaseModel", "isBroken", "Z", false)
  | 50 => ("CapitalCaseModel", "now", "[I", true)
  | 51 => ("CapitalCaseModel", "row", "[I", true)
  | 52 => ("CapitalCaseModel", "lots", "I", false)
  | 53 => ("CapitalCaseModel", "isStill", "Z", false)
  | 54 => ("CapitalCaseModel", "shut", "I", false)
  | 55 => ("CapitalCaseModel", "alikeMany", "I", false)
  | 56 => ("CapitalCaseModel", "wentNow", "[Z", true)
  | 57 => ("CapitalCaseModel", "wearsBy", "[I", true)
  | 58 => ("CapitalCaseModel", "paysBy", "[I", true)
  | 59 => ("CapitalCaseModel", "undos", "I", false)
  | 60 => ("CapitalCaseModel", "history", "[I", true)
  | 61 => ("CapitalCaseModel", "ahead", "[I", true)
  | 62 => ("CapitalCaseModel", "bestSum", "I", false)
  | 63 => ("CapitalCaseModel", "bestSet", "I", false)
  | 64 => ("CapitalCaseModel", "tolds", "I", false)
  | 65 => ("CapitalCaseModel", "toldLetter", "[I", true)
  | 66 => ("CapitalCaseModel", "toldWorn", "[I", true)
  | 67 => ("CapitalCaseModel", "toldSo", "[Z", true)
  | 68 => ("CapitalCaseModel", "isHeld", "[Z", true)
  | _ => ("CapitalCaseModel", "heldRows", "[I", true)
def tyX12 : Nat → FieldType := fun k => match k with
  | 0 => .int
  | 1 => .array .byte
  | 2 => .int
  | 3 => .array .byte
  | 4 => .int
  | 5 => .array .int
  | 6 => .array .int
  | 7 => .array .int
  | 8 => .array .long
  | 9 => .array .long
  | 10 => .int
  | 11 => .int
  | 12 => .int
  | 13 => .int
  | 14 => .int
  | 15 => .int
  | 16 => .int
  | 17 => .int
  | 18 => .int
  | 19 => .int
  | 20 => .int
  | 21 => .array .long
  | 22 => .array .int
  | 23 => .array .int
  | 24 => .array .int
  | 25 => .array .int
  | 26 => .array .int
  | 27 => .array .int
  | 28 => .array .int
  | 29 => .array .int
  | 30 => .array .int
  | 31 => .array .int
  | 32 => .array .int
  | 33 => .array .int
  | 34 => .int
  | 35 => .array .boolean
  | 36 => .array .int
  | 37 => .array .int
  | 38 => .array .int
  | 39 => .array .int
  | 40 => .int
  | 41 => .array .int
  | 42 => .array .int
  | 43 => .array .int
  | 44 => .int
  | 45 => .array .int
  | 46 => .int
  | 47 => .array .int
  | 48 => .array .int
  | 49 => .boolean
  | 50 => .array .int
  | 51 => .array .int
  | 52 => .int
  | 53 => .boolean
  | 54 => .int
  | 55 => .int
  | 56 => .array .boolean
  | 57 => .array .int
  | 58 => .array .int
  | 59 => .int
  | 60 => .array .int
  | 61 => .array .int
  | 62 => .int
  | 63 => .int
  | 64 => .int
  | 65 => .array .int
  | 66 => .array .int
  | 67 => .array .boolean
  | 68 => .array .boolean
  | _ => .array .int
theorem nmX12 : ∀ a, a < 70 → ∀ b, b < 70 → a ≠ b → (TX12 a).2.1 ≠ (TX12 b).2.1 := by decide +kernel
theorem tyX12_ok : ∀ k, k < 70 → parseFieldDescriptor (TX12 k).2.2.1 = some (tyX12 k) := by decide +kernel
theorem inX12 : ∀ w ∈ u_ws RX12 TX12 70, w ∈ lw_tbl := fun w h => (goodIn_r (big := lw_tbl) (u_ws RX12 TX12 70) [1351, 1353, 1355, 1357, 1359, 1361, 1363, 1365, 1367, 1369, 1371, 1373, 1375, 1377, 1379, 1381, 1383, 1385, 1387, 1389, 1391, 1393, 1395, 1397, 1399, 1401, 1403, 1405, 1407, 1409, 1411, 1413, 1415, 1417, 1419, 1421, 1423, 1425, 1427, 1429, 1431, 1433, 1435, 1437, 1439, 1441, 1443, 1445, 1447, 1449, 1451, 1453, 1455, 1457, 1459, 1461, 1463, 1465, 1467, 1469, 1471, 1473, 1475, 1477, 1479, 1481, 1483, 1485, 1487, 1489] (by decide +kernel) (by decide +kernel) w h).1
abbrev vwCl : List vw_C := [(RX0, TX0, 3), (RX1, TX1, 3), (RX2, TX2, 10), (RX3, TX3, 12), (RX4, TX4, 2), (RX5, TX5, 4), (RX6, TX6, 15), (RX7, TX7, 3), (RX8, TX8, 10), (RX9, TX9, 3), (RX10, TX10, 9), (RX11, TX11, 16), (RX12, TX12, 70)]
end
section
/-! ===== AN INTERPRETER: abstract values, cells, worlds ===== -/
/-- an int by an interval (offset by 2^31), a reference by its cell's number (none: null), 0: some long, 1 and on: the script -/
abbrev xV : Type := (Nat × Nat) ⊕ (Option Nat ⊕ Nat)
/-- a primitive array (kind, length, what stands where nothing was put, what was put), an array of references, an object (class, fields) -/
abbrev xE : Type := (Nat × Nat × (Nat × Nat) × List (Nat × Nat × Nat)) ⊕ ((Nat × Nat × List (Nat × Nat)) ⊕ (Nat × List xV))
/-- slots made, cells made, the cells in rows of sixteen -/
abbrev xW : Type := Nat × Nat × List (List (Option xE))
abbrev xC : Type := Nat → List xV → xW → Option (Option xV × xW)
abbrev xS : Type := Nat × List (Option xV) × List xV × xW
abbrev xF : Type := xC → List (Option xV) → List xV → xW → Option xS
noncomputable def xget {α : Type} (l : List α) : Nat → Option α := List.rec (fun _ => none) (fun a _ ih n => Nat.rec (some a) (fun m _ => ih m) n) l
noncomputable def xset {α : Type} (v : α) (l : List α) : Nat → List α := List.rec (fun _ => []) (fun a t ih n => Nat.rec (v :: t) (fun m _ => a :: ih m) n) l
theorem xget_eq {α : Type} : ∀ (l : List α) (n : Nat), xget l n = l[n]?
  | [], n => by simp [xget]
  | a :: l, 0 => rfl
  | a :: l, n + 1 => by
    have h := xget_eq l n
    simp only [List.getElem?_cons_succ]
    rw [← h]
    rfl
theorem xset_eq {α : Type} (v : α) : ∀ (l : List α) (n : Nat), xset v l n = l.set n v
  | [], n => by simp [xset]
  | a :: l, 0 => rfl
  | a :: l, n + 1 => by
    have h := xset_eq v l n
    simp only [List.set_cons_succ]
    rw [← h]
    rfl
/-- a cell -/
noncomputable def xwg (w : xW) (k : Nat) : Option xE := match xget w.2.2 (k / 16) with
  | none => none
  | some r => match xget r (k % 16) with
    | none => none
    | some o => o
/-- another content of a cell -/
noncomputable def xws (w : xW) (k : Nat) (e : xE) : xW := match xget w.2.2 (k / 16) with
  | none => w
  | some r => (w.1, w.2.1, xset (xset (some e) r (k % 16)) w.2.2 (k / 16))
/-- a new cell of n slots; none if there is no place -/
noncomputable def xwp (w : xW) (e : xE) (n : Nat) : Option xW := match xget w.2.2 (w.2.1 / 16) with
  | none => none
  | some r => match xget r (w.2.1 % 16) with
    | some none => some (w.1 + n, w.2.1 + 1, xset (xset (some e) r (w.2.1 % 16)) w.2.2 (w.2.1 / 16))
    | _ => none
theorem xwg_set {w : xW} {k j : Nat} {e e0 : xE} (h : xwg w k = some e0) : xwg (xws w k e) j = if j = k then some e else xwg w j := by
  unfold xwg at h
  cases hr : xget w.2.2 (k / 16) with
  | none => simp [hr] at h
  | some r =>
    simp only [hr] at h
    cases ho : xget r (k % 16) with
    | none => simp [ho] at h
    | some o =>
      simp only [xws, hr]
      unfold xwg
      simp only [xget_eq, xset_eq] at *
      have l1 : k / 16 < w.2.2.length := (List.getElem?_eq_some_iff.mp hr).1
      have l2 : k % 16 < r.length := (List.getElem?_eq_some_iff.mp ho).1
      by_cases hjk : j = k
      · subst hjk
        simp [List.getElem?_set_self l1, List.getElem?_set_self l2]
      · by_cases hd : j / 16 = k / 16
        · have hm : k % 16 ≠ j % 16 := by omega
          simp [hd, List.getElem?_set_self l1, List.getElem?_set_ne hm, hjk, hr]
        · simp [List.getElem?_set_ne (Ne.symm hd), hjk]
theorem xwg_push {w w' : xW} {j n : Nat} {e : xE} (h : xwp w e n = some w') : w'.1 = w.1 + n ∧ w'.2.1 = w.2.1 + 1 ∧ xwg w' j = if j = w.2.1 then some e else xwg w j := by
  unfold xwp at h
  cases hr : xget w.2.2 (w.2.1 / 16) with
  | none => simp [hr] at h
  | some r =>
    simp only [hr] at h
    cases ho : xget r (w.2.1 % 16) with
    | none => simp [ho] at h
    | some o =>
      cases o with
      | some o => simp [ho] at h
      | none =>
        simp only [ho, Option.some.injEq] at h
        subst h
        refine ⟨rfl, rfl, ?_⟩
        unfold xwg
        simp only [xget_eq, xset_eq] at *
        have l1 : w.2.1 / 16 < w.2.2.length := (List.getElem?_eq_some_iff.mp hr).1
        have l2 : w.2.1 % 16 < r.length := (List.getElem?_eq_some_iff.mp ho).1
        by_cases hjk : j = w.2.1
        · subst hjk
          simp [List.getElem?_set_self l1, List.getElem?_set_self l2]
        · by_cases hd : j / 16 = w.2.1 / 16
          · have hm : w.2.1 % 16 ≠ j % 16 := by omega
            simp [hd, List.getElem?_set_self l1, List.getElem?_set_ne hm, hjk, hr]
          · simp [List.getElem?_set_ne (Ne.symm hd), hjk]
theorem xws_nums (w : xW) (k : Nat) (e : xE) : (xws w k e).1 = w.1 ∧ (xws w k e).2.1 = w.2.1 := by
  unfold xws
  cases xget w.2.2 (k / 16) <;> exact ⟨rfl, rfl⟩
theorem xbeqF {a b : Nat} (h : ¬ a = b) : Nat.beq a b = false := by
  cases hc : Nat.beq a b with
  | false => rfl
  | true => exact absurd (Nat.eq_of_beq_eq_true hc) h
/-- what stands in an array -/
noncomputable def xlk (us : List (Nat × Nat × Nat)) (d : Nat × Nat) (j : Nat) : Nat × Nat := List.rec d (fun q _ ih => bif Nat.beq q.1 j then q.2 else ih) us
noncomputable def xlp (us : List (Nat × Nat × Nat)) (j : Nat) (v : Nat × Nat) : List (Nat × Nat × Nat) := List.rec [(j, v)] (fun q t ih => bif Nat.beq q.1 j then (j, v) :: t else q :: ih) us
theorem xlk_put (d : Nat × Nat) (j : Nat) (v : Nat × Nat) (i : Nat) : ∀ us : List (Nat × Nat × Nat), xlk (xlp us j v) d i = if i = j then v else xlk us d i
  | [] => by
    show (bif Nat.beq j i then v else d) = _
    by_cases h : i = j
    · subst h; simp
    · have : Nat.beq j i = false := xbeqF (Ne.symm h)
      simp [this, h, xlk]
  | q :: us => by
    have ih := xlk_put d j v i us
    show xlk (bif Nat.beq q.1 j then (j, v) :: us else q :: xlp us j v) d i = _
    by_cases hq : q.1 = j
    · have e : Nat.beq q.1 j = true := by simpa using hq
      rw [e]
      show (bif Nat.beq j i then v else xlk us d i) = if i = j then v else (bif Nat.beq q.1 i then q.2 else xlk us d i)
      by_cases h : i = j
      · subst h; simp
      · have e1 : Nat.beq j i = false := xbeqF (Ne.symm h)
        have e2 : Nat.beq q.1 i = false := by rw [hq]; exact e1
        simp [e1, e2, h]
    · have e : Nat.beq q.1 j = false := xbeqF hq
      rw [e]
      show (bif Nat.beq q.1 i then q.2 else xlk (xlp us j v) d i) = if i = j then v else (bif Nat.beq q.1 i then q.2 else xlk us d i)
      rw [ih]
      by_cases h : i = j
      · subst h
        simp [e]
      · simp [h]
noncomputable def xlq (us : List (Nat × Nat)) (j : Nat) : Option Nat := List.rec none (fun q _ ih => bif Nat.beq q.1 j then some q.2 else ih) us
/-! ints, offset by 2^31 -/
def xo (x : Int32) : Nat := (x.toInt + 2147483648).toNat
def xi (o : Nat) : Int32 := Int32.ofInt ((o : Int) - 2147483648)
theorem xo_int (x : Int32) : (xo x : Int) = x.toInt + 2147483648 := by
  have h1 := Int32.minValue_le_toInt x
  have h2 : Int32.minValue.toInt = -2147483648 := by decide
  rw [h2] at h1
  unfold xo
  omega
theorem xo_lt (x : Int32) : xo x < 4294967296 := by
  have h1 := x.toInt_lt
  have h := xo_int x
  omega
theorem xi_xo (x : Int32) : xi (xo x) = x := by
  unfold xi
  rw [xo_int, show x.toInt + 2147483648 - 2147483648 = x.toInt by omega]
  exact Int32.ofInt_toInt x
theorem xo_inj {x y : Int32} (h : xo x = xo y) : x = y := by rw [← xi_xo x, h, xi_xo]
theorem xo_xi {o : Nat} (h : o < 4294967296) : xo (xi o) = o := by
  have h1 : (xi o).toInt = (o : Int) - 2147483648 := Int32.toInt_ofInt_of_le (by omega) (by omega)
  have h2 := xo_int (xi o)
  omega
theorem xo_lt_iff {x y : Int32} : x < y ↔ xo x < xo y := by
  rw [Int32.lt_iff_toInt_lt]
  have h1 := xo_int x
  have h2 := xo_int y
  omega
theorem xo_le_iff {x y : Int32} : x ≤ y ↔ xo x ≤ xo y := by
  rw [Int32.le_iff_toInt_le]
  have h1 := xo_int x
  have h2 := xo_int y
  omega
theorem xo_zero : xo 0 = 2147483648 := by decide +kernel
theorem xo_nat {n : Nat} (h : n < 2147483648) : xo (Int32.ofNat n) = n + 2147483648 := by
  have h1 : (Int32.ofNat n).toInt = (n : Int) := Int32.toInt_ofNat_of_lt (by omega)
  have h2 := xo_int (Int32.ofNat n)
  omega
theorem xo_clamp {x : Int32} (h : 2147483648 ≤ xo x) : x.toNatClampNeg = xo x - 2147483648 := by
  have h2 := xo_int x
  show x.toInt.toNat = _
  omega
theorem xo_in {x : Int32} {n : Nat} (h : 2147483648 ≤ xo x) (h2 : xo x < n + 2147483648) : vp_in x n := by
  rw [vp_in_iff]
  have h3 := xo_int x
  omega
theorem xo_add (x y : Int32) : xo (x + y) = (xo x + xo y + 2147483648) % 4294967296 := by
  have h := xo_int (x + y)
  have h1 := xo_int x
  have h2 := xo_int y
  have h3 := xo_lt (x + y)
  rw [Int32.toInt_add] at h
  have e : (x.toInt + y.toInt).bmod (2 ^ 32) = (xo x + xo y - 4294967296 : Int).bmod 4294967296 := by
    congr 1; omega
  rw [e, Int.bmod_def] at h
  omega
theorem xo_sub (x y : Int32) : xo (x - y) = (xo x + 6442450944 - xo y) % 4294967296 := by
  have h := xo_int (x - y)
  have h1 := xo_int x
  have h2 := xo_int y
  have h3 := xo_lt (x - y)
  have h4 := xo_lt y
  rw [Int32.toInt_sub] at h
  have e : (x.toInt - y.toInt).bmod (2 ^ 32) = (xo x - xo y : Int).bmod 4294967296 := by
    congr 1; omega
  rw [e, Int.bmod_def] at h
  omega
/-! intervals -/
def xRI (a : Nat × Nat) (x : Int32) : Prop := a.1 ≤ xo x ∧ xo x ≤ a.2
theorem xRI_top (x : Int32) : xRI (0, 4294967295) x := ⟨Nat.zero_le _, by have := xo_lt x; show xo x ≤ 4294967295; omega⟩
theorem xRI_c (x : Int32) : xRI (xo x, xo x) x := ⟨Nat.le_refl _, Nat.le_refl _⟩
def xbin (f : Nat → Nat → Nat) (a b : Nat × Nat) : Nat × Nat := bif (Nat.beq a.1 a.2 && Nat.beq b.1 b.2) then (f a.1 b.1, f a.1 b.1) else (0, 4294967295)
theorem xbin_ok {f : Nat → Nat → Nat} {a b : Nat × Nat} {x y z : Int32} (hx : xRI a x) (hy : xRI b y) (h : xo z = f (xo x) (xo y)) : xRI (xbin f a b) z := by
  unfold xbin
  cases hc : (Nat.beq a.1 a.2 && Nat.beq b.1 b.2) with
  | false => exact xRI_top z
  | true =>
    simp only [Bool.and_eq_true, Nat.beq_eq] at hc
    have e1 : a.1 = xo x := Nat.le_antisymm hx.1 (by rw [hc.1]; exact hx.2)
    have e2 : b.1 = xo y := Nat.le_antisymm hy.1 (by rw [hc.2]; exact hy.2)
    show xRI (f a.1 b.1, f a.1 b.1) z
    rw [e1, e2, ← h]
    exact xRI_c z
def xun (f : Nat → Nat) (a : Nat × Nat) : Nat × Nat := bif Nat.beq a.1 a.2 then (f a.1, f a.1) else (0, 4294967295)
theorem xun_ok {f : Nat → Nat} {a : Nat × Nat} {x z : Int32} (hx : xRI a x) (h : xo z = f (xo x)) : xRI (xun f a) z := by
  unfold xun
  cases hc : Nat.beq a.1 a.2 with
  | false => exact xRI_top z
  | true =>
    have hc := Nat.eq_of_beq_eq_true hc
    have e1 : a.1 = xo x := Nat.le_antisymm hx.1 (by rw [hc]; exact hx.2)
    show xRI (f a.1, f a.1) z
    rw [e1, ← h]
    exact xRI_c z
def xfadd (a b : Nat) : Nat := (a + b + 2147483648) % 4294967296
def xfsub (a b : Nat) : Nat := (a + 6442450944 - b) % 4294967296
def xfg (g : Int32 → Int32 → Int32) (a b : Nat) : Nat := xo (g (xi a) (xi b))
theorem xfg_ok (g : Int32 → Int32 → Int32) (x y : Int32) : xo (g x y) = xfg g (xo x) (xo y) := by unfold xfg; rw [xi_xo, xi_xo]
/-- a comparison: 0 eq, 1 ne, 2 lt, 3 ge, 4 gt, 5 le; none: not decided -/
def xcmp (op : Nat) (a b : Nat × Nat) : Option Bool := match op with
  | 0 => bif Nat.blt a.2 b.1 || Nat.blt b.2 a.1 then some false else bif Nat.beq a.1 a.2 && (Nat.beq b.1 b.2 && Nat.beq a.1 b.1) then some true else none
  | 1 => bif Nat.blt a.2 b.1 || Nat.blt b.2 a.1 then some true else bif Nat.beq a.1 a.2 && (Nat.beq b.1 b.2 && Nat.beq a.1 b.1) then some false else none
  | 2 => bif Nat.blt a.2 b.1 then some true else bif Nat.ble b.2 a.1 then some false else none
  | 3 => bif Nat.blt a.2 b.1 then some false else bif Nat.ble b.2 a.1 then some true else none
  | 4 => bif Nat.blt b.2 a.1 then some true else bif Nat.ble a.2 b.1 then some false else none
  | _ => bif Nat.blt b.2 a.1 then some false else bif Nat.ble a.2 b.1 then some true else none
def xcmpP (op : Nat) (x y : Int32) : Prop := match op with
  | 0 => x = y
  | 1 => ¬ x = y
  | 2 => x < y
  | 3 => y ≤ x
  | 4 => y < x
  | _ => x ≤ y
theorem xblt {a b : Nat} (h : Nat.blt a b = true) : a < b := Nat.le_of_ble_eq_true h
theorem xble {a b : Nat} (h : Nat.ble a b = true) : a ≤ b := Nat.le_of_ble_eq_true h
theorem xcmp_ok {op : Nat} {a b : Nat × Nat} {x y : Int32} {r : Bool} (hx : xRI a x) (hy : xRI b y) (h : xcmp op a b = some r) : (r = true → xcmpP op x y) ∧ (r = false → ¬ xcmpP op x y) := by
  obtain ⟨x1, x2⟩ := hx
  obtain ⟨y1, y2⟩ := hy
  have eqn : x = y ↔ xo x = xo y := ⟨fun q => by rw [q], xo_inj⟩
  have key : ∀ c d : Bool, ∀ u v : Bool, (bif c then some u else bif d then some v else none) = some r → (c = true ∧ r = u) ∨ (c = false ∧ d = true ∧ r = v) := by
    intro c d u v h
    cases c <;> cases d <;> simp_all
  match op, h with
  | 0, h =>
    rcases key _ _ _ _ h with ⟨c, rfl⟩ | ⟨-, d, rfl⟩
    · refine ⟨fun q => (by cases q), fun _ => ?_⟩
      show ¬ x = y
      rw [eqn]
      simp only [Bool.or_eq_true] at c
      rcases c with c | c <;> have := xblt c <;> omega
    · refine ⟨fun _ => ?_, fun q => by cases q⟩
      show x = y
      rw [eqn]
      simp only [Bool.and_eq_true, Nat.beq_eq] at d
      omega
  | 1, h =>
    rcases key _ _ _ _ h with ⟨c, rfl⟩ | ⟨-, d, rfl⟩
    · refine ⟨fun _ => ?_, fun q => by cases q⟩
      show ¬ x = y
      rw [eqn]
      simp only [Bool.or_eq_true] at c
      rcases c with c | c <;> have := xblt c <;> omega
    · refine ⟨fun q => (by cases q), fun _ => ?_⟩
      show ¬ ¬ x = y
      rw [eqn]
      simp only [Bool.and_eq_true, Nat.beq_eq] at d
      omega
  | 2, h =>
    rcases key _ _ _ _ h with ⟨c, rfl⟩ | ⟨-, d, rfl⟩
    · refine ⟨fun _ => ?_, fun q => by cases q⟩
      show x < y
      rw [xo_lt_iff]; have := xblt c; omega
    · refine ⟨fun q => (by cases q), fun _ => ?_⟩
      show ¬ x < y
      rw [xo_lt_iff]; have := xble d; omega
  | 3, h =>
    rcases key _ _ _ _ h with ⟨c, rfl⟩ | ⟨-, d, rfl⟩
    · refine ⟨fun q => (by cases q), fun _ => ?_⟩
      show ¬ y ≤ x
      rw [xo_le_iff]; have := xblt c; omega
    · refine ⟨fun _ => ?_, fun q => by cases q⟩
      show y ≤ x
      rw [xo_le_iff]; have := xble d; omega
  | 4, h =>
    rcases key _ _ _ _ h with ⟨c, rfl⟩ | ⟨-, d, rfl⟩
    · refine ⟨fun _ => ?_, fun q => by cases q⟩
      show y < x
      rw [xo_lt_iff]; have := xblt c; omega
    · refine ⟨fun q => (by cases q), fun _ => ?_⟩
      show ¬ y < x
      rw [xo_lt_iff]; have := xble d; omega
  | n + 5, h =>
    rcases key _ _ _ _ h with ⟨c, rfl⟩ | ⟨-, d, rfl⟩
    · refine ⟨fun q => (by cases q), fun _ => ?_⟩
      show ¬ x ≤ y
      rw [xo_le_iff]; have := xblt c; omega
    · refine ⟨fun _ => ?_, fun q => by cases q⟩
      show x ≤ y
      rw [xo_le_iff]; have := xble d; omega
end
section
/-! ===== WHAT AN ABSTRACT STATE SAYS OF THE MACHINE ===== -/
def xTys : List FieldType := [.int, .byte, .boolean, .long, .object "CapitalCase$Town"]
def xTB : List Cond := lw_tbl.filter goodWord
theorem xmem {w : Cond} (h : w ∈ lw_tbl) (hg : goodWord w = true) : w ∈ xTB := List.mem_filter.mpr ⟨h, hg⟩
theorem xw {w : Cond} (i : Nat) (h : lw_tbl[i]? = some w) (hg : goodWord w = true) : w ∈ xTB := xmem (List.mem_of_getElem? h) hg
def xRV (sz b : Nat) (v : xV) (u : Value) : Prop := match v with
  | .inl a => ∃ x : Int32, u = .int x ∧ xRI a x
  | .inr (.inl none) => u = .null
  | .inr (.inl (some k)) => u = .ref (sz + k)
  | .inr (.inr 0) => ∃ x : Int64, u = .long x
  | .inr (.inr (_ + 1)) => u = .ref b
def xRS (sz b : Nat) : List xV → List Value → Prop
  | [], st => st = []
  | v :: S, st => ∃ u st', st = u :: st' ∧ xRV sz b v u ∧ xRS sz b S st'
theorem xRS_get {sz b : Nat} : ∀ {S : List xV} {st : List Value} {k : Nat} {v : xV}, xRS sz b S st → S[k]? = some v → ∃ u, st[k]? = some u ∧ xRV sz b v u
  | [], st, k, v, _, h => by simp at h
  | a :: S, st, 0, v, h, hk => by
    obtain ⟨u, st', rfl, h1, -⟩ := h
    simp only [List.getElem?_cons_zero, Option.some.injEq] at hk
    subst hk
    exact ⟨u, rfl, h1⟩
  | a :: S, st, k + 1, v, h, hk => by
    obtain ⟨u, st', rfl, -, h2⟩ := h
    simp only [List.getElem?_cons_succ] at hk ⊢
    exact xRS_get h2 hk
theorem xRS_len {sz b : Nat} : ∀ {S : List xV} {st : List Value}, xRS sz b S st → st.length = S.length
  | [], st, h => by cases h; rfl
  | a :: S, st, h => by
    obtain ⟨u, st', rfl, -, h2⟩ := h
    simp [xRS_len h2]
theorem xRS_set {sz b : Nat} {v : xV} {u : Value} (hv : xRV sz b v u) : ∀ {S : List xV} {st : List Value} (k : Nat), xRS sz b S st → xRS sz b (S.set k v) (st.set k u)
  | [], st, k, h => by cases h; rfl
  | a :: S, st, 0, h => by
    obtain ⟨u', st', rfl, h1, h2⟩ := h
    exact ⟨u, st', rfl, hv, h2⟩
  | a :: S, st, k + 1, h => by
    obtain ⟨u', st', rfl, h1, h2⟩ := h
    exact ⟨u', st'.set k u, rfl, h1, xRS_set hv k h2⟩
theorem xRS_map {sz b : Nat} {f : Nat → xV} {g : Nat → Value} : ∀ (l : List Nat), (∀ j ∈ l, xRV sz b (f j) (g j)) → xRS sz b (l.map f) (l.map g)
  | [], _ => rfl
  | a :: l, h => ⟨g a, l.map g, rfl, h a List.mem_cons_self, xRS_map l (fun j hj => h j (List.mem_cons_of_mem _ hj))⟩
theorem xRS_app {sz b : Nat} : ∀ {S1 S2 : List xV} {t1 t2 : List Value}, xRS sz b S1 t1 → xRS sz b S2 t2 → xRS sz b (S1 ++ S2) (t1 ++ t2)
  | [], S2, t1, t2, h1, h2 => by cases h1; exact h2
  | a :: S1, S2, t1, t2, h1, h2 => by
    obtain ⟨u, t', rfl, q1, q2⟩ := h1
    exact ⟨u, t' ++ t2, rfl, q1, xRS_app q2 h2⟩
theorem xRS_rev {sz b : Nat} : ∀ {S : List xV} {st : List Value}, xRS sz b S st → xRS sz b S.reverse st.reverse
  | [], st, h => by cases h; rfl
  | a :: S, st, h => by
    obtain ⟨u, t', rfl, q1, q2⟩ := h
    simp only [List.reverse_cons]
    exact xRS_app (xRS_rev q2) ⟨u, [], rfl, q1, rfl⟩
theorem xRS_split {sz b : Nat} : ∀ {S1 S2 : List xV} {st : List Value}, xRS sz b (S1 ++ S2) st → ∃ t1 t2, st = t1 ++ t2 ∧ xRS sz b S1 t1 ∧ xRS sz b S2 t2
  | [], S2, st, h => ⟨[], st, rfl, rfl, h⟩
  | a :: S1, S2, st, h => by
    obtain ⟨u, t', rfl, q1, q2⟩ := h
    obtain ⟨t1, t2, rfl, q3, q4⟩ := xRS_split q2
    exact ⟨u :: t1, t2, rfl, ⟨u, t1, rfl, q1, q3⟩, q4⟩
def xRE (sz b : Nat) (tys : List (ClassId × FieldType)) (e : xE) (u : va_E) : Prop := match e with
  | .inl (t, n, d, us) => ∃ (cA : ClassId) (ty : FieldType), tys[t]? = some (cA, ty) ∧ n < 2147483648 ∧ ((t < 3 ∧ ∃ f : Nat → Int32, u = .inl (cA, n, .inl f) ∧ ∀ j, j < n → xRI (xlk us d j) (f j)) ∨ (t = 3 ∧ ∃ f : Nat → Int64, u = .inl (cA, n, .inr (.inl f))))
  | .inr (.inl (t, n, us)) => ∃ (cA : ClassId) (ty : FieldType), tys[t]? = some (cA, ty) ∧ n < 2147483648 ∧ t = 4 ∧ ∃ f : Nat → Option Nat, u = .inl (cA, n, .inr (.inr (.inr (.inr f)))) ∧ ∀ j, j < n → f j = (xlq us j).map (fun k => sz + k)
  | .inr (.inr (ci, fs)) => ∃ vs : List Value, u = .inr (ci, vs) ∧ xRS sz b fs vs
def xRW (sz b : Nat) (tys : List (ClassId × FieldType)) (w : xW) (ws : va_W) : Prop :=
  ws.length = w.2.1 ∧ (∀ (k : Nat) (e : xE), xwg w k = some e → ∃ u : va_E, ws[k]? = some (sz + k, u) ∧ xRE sz b tys e u) ∧ ∀ (k : Nat) (q : Nat × va_E), ws[k]? = some q → q.1 = sz + k
theorem xRW_D {sz b : Nat} {tys : List (ClassId × FieldType)} {w : xW} {ws : va_W} (h : xRW sz b tys w ws) : va_D (fun q => sz ≤ q) ws :=
  ⟨fun i j p q hi hj he => by have h1 := h.2.2 i p hi; have h2 := h.2.2 j q hj; omega, fun k q hk => by have h1 := h.2.2 k q hk; show sz ≤ q.1; omega⟩
theorem xRW_set {sz b k : Nat} {tys : List (ClassId × FieldType)} {w : xW} {ws : va_W} {e0 e : xE} {u : va_E} (h : xRW sz b tys w ws) (hk : xwg w k = some e0) (hu : xRE sz b tys e u) : xRW sz b tys (xws w k e) (ws.set k (sz + k, u)) := by
  have hn := xws_nums w k e
  obtain ⟨u0, h0, -⟩ := h.2.1 k e0 hk
  have hl : k < ws.length := (List.getElem?_eq_some_iff.mp h0).1
  refine ⟨by rw [List.length_set, hn.2]; exact h.1, fun j e' hj => ?_, fun j q hj => ?_⟩
  · rw [xwg_set hk] at hj
    by_cases hjk : j = k
    · subst hjk
      rw [if_pos rfl] at hj
      cases hj
      exact ⟨u, List.getElem?_set_self hl, hu⟩
    · rw [if_neg hjk] at hj
      rw [List.getElem?_set_ne (Ne.symm hjk)]
      exact h.2.1 j e' hj
  · by_cases hjk : j = k
    · subst hjk
      rw [List.getElem?_set_self hl] at hj
      cases hj
      rfl
    · rw [List.getElem?_set_ne (Ne.symm hjk)] at hj
      exact h.2.2 j q hj
theorem xRW_push {sz b n : Nat} {tys : List (ClassId × FieldType)} {w w' : xW} {ws : va_W} {e : xE} {u : va_E} (h : xRW sz b tys w ws) (hk : xwp w e n = some w') (hu : xRE sz b tys e u) : xRW sz b tys w' (ws ++ [(sz + w.2.1, u)]) := by
  have hl := h.1
  refine ⟨by rw [List.length_append, (xwg_push (j := 0) hk).2.1, hl]; rfl, fun j e' hj => ?_, fun j q hj => ?_⟩
  · rw [(xwg_push (j := j) hk).2.2] at hj
    by_cases hjk : j = w.2.1
    · subst hjk
      rw [if_pos rfl] at hj
      cases hj
      refine ⟨u, ?_, hu⟩
      rw [List.getElem?_append_right (by omega), hl, Nat.sub_self]
      rfl
    · rw [if_neg hjk] at hj
      obtain ⟨u', h1, h2⟩ := h.2.1 j e' hj
      refine ⟨u', ?_, h2⟩
      rw [List.getElem?_append_left (List.getElem?_eq_some_iff.mp h1).1]
      exact h1
  · by_cases hjl : j < ws.length
    · rw [List.getElem?_append_left hjl] at hj
      exact h.2.2 j q hj
    · rw [List.getElem?_append_right (by omega)] at hj
      have hz : j - ws.length < 1 := (List.getElem?_eq_some_iff.mp hj).1
      rw [show j - ws.length = 0 by omega] at hj
      cases hj
      show sz + w.2.1 = sz + j
      omega
/-- the links to private members of nest mates -/
def xNT : List (String × Nat × MethodName × String) := [("CapitalCase$Parser", 20, ⟨"CapitalCase$Tokens", "<init>", "()V"⟩, "CapitalCase"), ("CapitalCase", 38, ⟨"CapitalCase$Town", "<init>", "()V"⟩, "CapitalCase"), ("CapitalCase", 48, ⟨"CapitalCase$History", "<init>", "()V"⟩, "CapitalCase"), ("CapitalCase", 63, ⟨"CapitalCase$Prints", "<init>", "()V"⟩, "CapitalCase"), ("CapitalCase$TwoDays", 11, ⟨"CapitalCase$Town", "<init>", "()V"⟩, "CapitalCase"), ("CapitalCase$History", 19, ⟨"CapitalCase$Town", "<init>", "()V"⟩, "CapitalCase")]
def xN (s : State) : Prop := ∀ q ∈ xNT, va_Nw (.methodLinkNest q.1 q.2.1 q.2.2.1 q.2.2.2) s
theorem xN_warm {s U : State} (hW : s.WarmedH U.vm) (h : xN s) : xN U := fun q hq => va_Nw.warmM hW (h q hq)
theorem xN_same {s U : State} (hv : s.vm = U.vm) (h : xN s) : xN U := fun q hq => va_Nw.same rfl hv (h q hq)
/-! the walk of a method -/
def xCtx (p : Program) (s : State) (m : MethodId) (args : Array Value) (meth : Method) (c : Code) (cc : ByteArray) (own : String) (ini : Bool) (nL : Nat) (D : va_G) (tys : List (ClassId × FieldType)) : Prop :=
  p.tables.exec = Jvm.exec ∧ c.code = cc ∧ c.maxLocals = nL ∧ s.vm.findClass own = some m.cls ∧ (∀ w ∈ xTB, w.before args s = true) ∧ va_K D vwCl tys s ∧ tys.map Prod.snd = xTys ∧ (ini = true → meth.name = "<init>") ∧ xN s
def xMem (D : va_G) (tys : List (ClassId × FieldType)) (sz b : Nat) (s : State) (c0 s0 : Nat) (w : xW) (H : Heap) (locs : List Loc) (cells slots : Nat) : Prop :=
  (∃ ws : va_W, xRW sz b tys w ws ∧ va_P D vwCl ws H) ∧ H.size = sz + w.2.1 ∧ va_S (fun q => sz ≤ q) s.heap H locs ∧ c0 + cells = w.2.1 ∧ s0 + slots = w.1 ∧ s.heap.size = sz + c0
def xRL (sz b : Nat) (L : List (Option xV)) (ls : Array Slot) (nL : Nat) : Prop :=
  L.length = nL ∧ ∃ lv : List (Nat × Value), lv_has ls nL lv ∧ ∀ (i : Nat) (v : xV), xget L i = some (some v) → ∃ u : Value, (i, u) ∈ lv ∧ xRV sz b v u
def xReach (G : State → Nat → Nat → Prop) (cc : ByteArray) (own : String) (ini : Bool) (pc d : Nat) (L : List (Option xV)) (S : List xV) (w : xW) (pc' : Nat) (L' : List (Option xV)) (S' : List xV) (w' : xW) : Prop :=
  ∀ (p : Program) (l : Launch) (e : Env) (R : Room) (s : State) (m : MethodId) (args : Array Value) (below : List Frame) (meth : Method) (c : Code) (Q : State → Prop) (nL : Nat) (D : va_G) (tys : List (ClassId × FieldType)) (sz b c0 s0 : Nat),
    xCtx p s m args meth c cc own ini nL D tys → G s sz b → d + 1 ≤ R.frames → 64 * (d + 1) ≤ R.locals → w'.2.1 ≤ c0 + R.cells → w'.1 ≤ s0 + R.slots →
    ∀ (ls : Array Slot) (st : List Value) (H : Heap) (locs : List Loc) (cells slots : Nat), xMem D tys sz b s c0 s0 w H locs cells slots → xRL sz b L ls nL → xRS sz b S st →
    (∀ (ls' : Array Slot) (st' : List Value) (H' : Heap) (locs' : List Loc) (cells' slots' : Nat), xMem D tys sz b s c0 s0 w' H' locs' cells' slots' → xRL sz b L' ls' nL → xRS sz b S' st' → W p l e R s m args below meth c H' locs' cells' slots' Q (F0 m pc' ls' st')) →
    W p l e R s m args below meth c H locs cells slots Q (F0 m pc ls st)
def xLe (w w' : xW) : Prop := w.2.1 ≤ w'.2.1 ∧ w.1 ≤ w'.1
theorem xLe_rf {w : xW} : xLe w w := ⟨Nat.le_refl _, Nat.le_refl _⟩
/-! contracts of calls -/
def xPc (D : va_G) (tys : List (ClassId × FieldType)) (sz b : Nat) (as : List xV) (w : xW) : Array Value → State → Prop := fun v U =>
  ∃ us : List Value, v = us.toArray ∧ xRS sz b as us ∧ (∃ ws : va_W, xRW sz b tys w ws ∧ va_P D vwCl ws U.heap) ∧ U.heap.size = sz + w.2.1 ∧ va_K D vwCl tys U ∧ tys.map Prod.snd = xTys ∧ xN U
def xRO (sz b : Nat) (r : Option xV) (v : Option Value) : Prop := match r with
  | none => v = none
  | some a => ∃ u, v = some u ∧ xRV sz b a u
def xQc (D : va_G) (tys : List (ClassId × FieldType)) (sz b : Nat) (r : Option xV) (w' : xW) : Array Value → State → Outcome → State → Prop := fun _ st o t =>
  ∃ v : Option Value, o = .returned v ∧ xRO sz b r v ∧ (∃ ws : va_W, xRW sz b tys w' ws ∧ va_P D vwCl ws t.heap) ∧ t.heap.size = sz + w'.2.1 ∧ va_F (fun q => sz ≤ q) st t
def xRm (d mc ms : Nat) : Room := { frames := d, cells := mc, slots := ms, locals := 64 * d }
abbrev xP : Type := MethodName × ByteArray × Nat × Option FieldType
def xMet (q : xP) (d : Nat) (as : List xV) (w : xW) (r : Option xV) (w' : xW) : Prop :=
  ∀ (l : Launch) (D : va_G) (tys : List (ClassId × FieldType)) (sz b : Nat), Met l q.1 (.code q.1 q.2.1 q.2.2.1 q.2.2.2 :: xTB) (xRm d (w'.2.1 - w.2.1) (w'.1 - w.1)) (xPc D tys sz b as w) (xQc D tys sz b r w') (w'.2.1 - w.2.1) (w'.1 - w.1) (fun a => sz ≤ a)
/-- the methods by number -/
abbrev xPX : Type := Nat → Option xP
def xCalls (PX : xPX) (d : Nat) (call : xC) : Prop := ∀ (j : Nat) (as : List xV) (w : xW) (r : Option xV) (w' : xW), call j as w = some (r, w') → xLe w w' ∧ ∀ q : xP, PX j = some q → xMet q d as w r w'
def xSound (PX : xPX) (G : State → Nat → Nat → Prop) (cc : ByteArray) (own : String) (ini : Bool) (pc : Nat) (f : xF) : Prop :=
  ∀ (call : xC) (d : Nat), xCalls PX d call → ∀ (L : List (Option xV)) (S : List xV) (w : xW) (pc' : Nat) (L' : List (Option xV)) (S' : List xV) (w' : xW), f call L S w = some (pc', L', S', w') → xLe w w' ∧ xReach G cc own ini pc d L S w pc' L' S' w'
/-! the instructions that leave the world alone -/
def x_const (k n : Nat) : xF := fun _ L S w => some (n, L, .inl (k, k) :: S, w)
def x_lconst (n : Nat) : xF := fun _ L S w => some (n, L, .inr (.inr 0) :: S, w)
noncomputable def x_iload (i n : Nat) : xF := fun _ L S w => match xget L i with
  | some (some (.inl a)) => some (n, L, .inl a :: S, w)
  | _ => none
noncomputable def x_aload (i n : Nat) : xF := fun _ L S w => match xget L i with
  | some (some (.inr (.inl (some k)))) => some (n, L, .inr (.inl (some k)) :: S, w)
  | _ => none
noncomputable def x_sload (i n : Nat) : xF := fun _ L S w => match xget L i with
  | some (some (.inr (.inr (k + 1)))) => some (n, L, .inr (.inr (k + 1)) :: S, w)
  | _ => none
noncomputable def x_lload (i n : Nat) : xF := fun _ L S w => match xget L i with
  | some (some (.inr (.inr 0))) => some (n, L, .inr (.inr 0) :: S, w)
  | _ => none
def xlg (o : Option (Option xV)) : Bool := match o with
  | some (some (.inr (.inr 0))) => true
  | _ => false
noncomputable def xst (L : List (Option xV)) (i : Nat) (v : xV) : Option (List (Option xV)) := match xget L i with
  | none => none
  | some _ => bif xlg (xget L (i - 1)) then none else some (xset (some v) L i)
noncomputable def x_istore (i n : Nat) : xF := fun _ L S w => match S with
  | .inl a :: S => (match xst L i (.inl a) with
    | some L' => some (n, L', S, w)
    | none => none)
  | _ => none
noncomputable def x_astore (i n : Nat) : xF := fun _ L S w => match S with
  | .inr (.inl r) :: S => (match xst L i (.inr (.inl r)) with
    | some L' => some (n, L', S, w)
    | none => none)
  | _ => none
noncomputable def x_iinc (i k n : Nat) : xF := fun _ L S w => match xget L i with
  | some (some (.inl a)) => (match xst L i (.inl (xbin xfadd a (k, k))) with
    | some L' => some (n, L', S, w)
    | none => none)
  | _ => none
def x_bin (f : Nat → Nat → Nat) (n : Nat) : xF := fun _ L S w => match S with
  | .inl b :: .inl a :: S => some (n, L, .inl (xbin f a b) :: S, w)
  | _ => none
def x_un (f : Nat → Nat) (n : Nat) : xF := fun _ L S w => match S with
  | .inl a :: S => some (n, L, .inl (xun f a) :: S, w)
  | _ => none
/-- a remainder of what is not below 0 -/
def x_rem (n : Nat) : xF := fun _ L S w => match S with
  | .inl b :: .inl a :: S => bif Nat.beq a.1 a.2 && (Nat.beq b.1 b.2 && (Nat.ble 2147483648 a.1 && Nat.blt 2147483648 b.1)) then some (n, L, .inl (2147483648 + (a.1 - 2147483648) % (b.1 - 2147483648), 2147483648 + (a.1 - 2147483648) % (b.1 - 2147483648)) :: S, w) else none
  | _ => none
def x_i2l (n : Nat) : xF := fun _ L S w => match S with
  | .inl _ :: S => some (n, L, .inr (.inr 0) :: S, w)
  | _ => none
def x_lbin (n : Nat) : xF := fun _ L S w => match S with
  | .inr (.inr 0) :: .inr (.inr 0) :: S => some (n, L, .inr (.inr 0) :: S, w)
  | _ => none
def x1 (v : xV) : Bool := match v with
  | .inr (.inr 0) => false
  | _ => true
def x_dup (n : Nat) : xF := fun _ L S w => match S with
  | v :: S => bif x1 v then some (n, L, v :: v :: S, w) else none
  | _ => none
def x_dup2 (n : Nat) : xF := fun _ L S w => match S with
  | v :: u :: S => bif x1 v && x1 u then some (n, L, v :: u :: v :: u :: S, w) else none
  | _ => none
def x_if (op t n : Nat) : xF := fun _ L S w => match S with
  | .inl a :: S => (match xcmp op a (2147483648, 2147483648) with
    | some true => some (t, L, S, w)
    | some false => some (n, L, S, w)
    | none => none)
  | _ => none
def x_icmp (op t n : Nat) : xF := fun _ L S w => match S with
  | .inl b :: .inl a :: S => (match xcmp op a b with
    | some true => some (t, L, S, w)
    | some false => some (n, L, S, w)
    | none => none)
  | _ => none
def x_goto (t : Nat) : xF := fun _ L S w => some (t, L, S, w)
def x_ifnonnull (t n : Nat) : xF := fun _ L S w => match S with
  | .inr (.inl none) :: S => some (n, L, S, w)
  | .inr (.inl (some _)) :: S => some (t, L, S, w)
  | _ => none
noncomputable def x_tsw (lo : Nat) (ts : List Nat) (df : Nat) : xF := fun _ L S w => match S with
  | .inl a :: S => bif Nat.blt a.2 lo || Nat.ble (lo + ts.length) a.1 then some (df, L, S, w) else bif Nat.beq a.1 a.2 then (match xget ts (a.1 - lo) with
    | some t => some (t, L, S, w)
    | none => none) else none
  | _ => none
section XS1
variable {PX : xPX} {G : State → Nat → Nat → Prop} {cc : ByteArray} {own : String} {ini : Bool} {pc : Nat}
theorem xRV1 {sz b : Nat} {v : xV} {u : Value} (h : xRV sz b v u) (h1 : x1 v = true) : u.category = 1 := by
  match v, h, h1 with
  | .inl a, h, _ => obtain ⟨x, rfl, -⟩ := h; rfl
  | .inr (.inl none), h, _ => cases h; rfl
  | .inr (.inl (some k)), h, _ => cases h; rfl
  | .inr (.inr 0), _, h1 => cases h1
  | .inr (.inr (k + 1)), h, _ => cases h; rfl
theorem s_iconst {n : Int} {k : Nat} (hd : decode cc pc = .ok (.iconst n, 1)) (hv : xo (Int32.ofInt n) = k) : xSound PX G cc own ini pc (x_const k (pc + 1)) := by
  intro call d hc L S w pc' L' S' w' h
  cases h
  refine ⟨xLe_rf, ?_⟩
  intro p l e R s m args below meth c Q nL D tys sz b c0 s0 C hG hf hlo h1 h2 ls st H locs cells slots hM hL hS kk
  exact lv_iconst C.1 C.2.1 hd rfl (kk _ _ _ _ _ _ hM hL ⟨_, _, rfl, ⟨_, rfl, hv ▸ xRI_c _⟩, hS⟩)
theorem s_bipush {n : Int} {k : Nat} (hd : decode cc pc = .ok (.bipush n, 2)) (hv : xo (Int8.ofInt n).toInt32 = k) : xSound PX G cc own ini pc (x_const k (pc + 2)) := by
  intro call d hc L S w pc' L' S' w' h
  cases h
  refine ⟨xLe_rf, ?_⟩
  intro p l e R s m args below meth c Q nL D tys sz b c0 s0 C hG hf hlo h1 h2 ls st H locs cells slots hM hL hS kk
  exact lv_bipush C.1 C.2.1 hd rfl (kk _ _ _ _ _ _ hM hL ⟨_, _, rfl, ⟨_, rfl, hv ▸ xRI_c _⟩, hS⟩)
theorem s_sipush {n : Int} {k : Nat} (hd : decode cc pc = .ok (.sipush n, 3)) (hv : xo (Int16.ofInt n).toInt32 = k) : xSound PX G cc own ini pc (x_const k (pc + 3)) := by
  intro call d hc L S w pc' L' S' w' h
  cases h
  refine ⟨xLe_rf, ?_⟩
  intro p l e R s m args below meth c Q nL D tys sz b c0 s0 C hG hf hlo h1 h2 ls st H locs cells slots hM hL hS kk
  exact lv_sipush C.1 C.2.1 hd rfl (kk _ _ _ _ _ _ hM hL ⟨_, _, rfl, ⟨_, rfl, hv ▸ xRI_c _⟩, hS⟩)
theorem s_ldc {index : Nat} {v : Int32} {k : Nat} (hd : decode cc pc = .ok (.ldc index, 2)) (hw : Cond.constant own index v ∈ xTB) (hv : xo v = k) : xSound PX G cc own ini pc (x_const k (pc + 2)) := by
  intro call d hc L S w pc' L' S' w' h
  cases h
  refine ⟨xLe_rf, ?_⟩
  intro p l e R s m args below meth c Q nL D tys sz b c0 s0 C hG hf hlo h1 h2 ls st H locs cells slots hM hL hS kk
  exact lv_ldc C.1 C.2.1 C.2.2.2.1 (C.2.2.2.2.1 _ hw) hd (kk _ _ _ _ _ _ hM hL ⟨_, _, rfl, ⟨_, rfl, hv ▸ xRI_c _⟩, hS⟩)
theorem s_ldcw {index : Nat} {v : Int32} {k : Nat} (hd : decode cc pc = .ok (.ldc_w index, 3)) (hw : Cond.constant own index v ∈ xTB) (hv : xo v = k) : xSound PX G cc own ini pc (x_const k (pc + 3)) := by
  intro call d hc L S w pc' L' S' w' h
  cases h
  refine ⟨xLe_rf, ?_⟩
  intro p l e R s m args below meth c Q nL D tys sz b c0 s0 C hG hf hlo h1 h2 ls st H locs cells slots hM hL hS kk
  exact lv_ldcw C.1 C.2.1 C.2.2.2.1 (C.2.2.2.2.1 _ hw) hd (kk _ _ _ _ _ _ hM hL ⟨_, _, rfl, ⟨_, rfl, hv ▸ xRI_c _⟩, hS⟩)
theorem s_ldc2 {index : Nat} {v : Int64} (hd : decode cc pc = .ok (.ldc2_w index, 3)) (hw : Cond.constantLong own index v ∈ xTB) : xSound PX G cc own ini pc (x_lconst (pc + 3)) := by
  intro call d hc L S w pc' L' S' w' h
  cases h
  refine ⟨xLe_rf, ?_⟩
  intro p l e R s m args below meth c Q nL D tys sz b c0 s0 C hG hf hlo h1 h2 ls st H locs cells slots hM hL hS kk
  exact lv_ldc2 C.1 C.2.1 C.2.2.2.1 (C.2.2.2.2.1 _ hw) hd (kk _ _ _ _ _ _ hM hL ⟨_, _, rfl, ⟨_, rfl⟩, hS⟩)
theorem s_lconst {n : Fin 2} (hd : decode cc pc = .ok (.lconst n, 1)) : xSound PX G cc own ini pc (x_lconst (pc + 1)) := by
  intro call d hc L S w pc' L' S' w' h
  cases h
  refine ⟨xLe_rf, ?_⟩
  intro p l e R s m args below meth c Q nL D tys sz b c0 s0 C hG hf hlo h1 h2 ls st H locs cells slots hM hL hS kk
  exact lv_lconst C.1 C.2.1 hd rfl (kk _ _ _ _ _ _ hM hL ⟨_, _, rfl, ⟨_, rfl⟩, hS⟩)
theorem xRL_at {sz b nL i : Nat} {L : List (Option xV)} {ls : Array Slot} {v : xV} (h : xRL sz b L ls nL) (hi : xget L i = some (some v)) : ∃ u, ls[i]? = some (.val u) ∧ xRV sz b v u := by
  obtain ⟨-, lv, h1, h2⟩ := h
  obtain ⟨u, h3, h4⟩ := h2 i v hi
  exact ⟨u, h1.2.2 (i, u) h3, h4⟩
theorem x_iload_eq {i n : Nat} {call : xC} {L : List (Option xV)} {S : List xV} {w : xW} {r : xS} (h : x_iload i n call L S w = some r) : ∃ a, xget L i = some (some (.inl a)) ∧ r = (n, L, .inl a :: S, w) := by
  unfold x_iload at h
  split at h
  · rename_i a ha
    exact ⟨a, ha, (Option.some.inj h).symm⟩
  · cases h
theorem s_iload_n {k : Fin 4} (hd : decode cc pc = .ok (.iload_n k, 1)) : xSound PX G cc own ini pc (x_iload k (pc + 1)) := by
  intro call d hc L S w pc' L' S' w' h
  obtain ⟨a, ha, hr⟩ := x_iload_eq h
  cases hr
  refine ⟨xLe_rf, ?_⟩
  intro p l e R s m args below meth c Q nL D tys sz b c0 s0 C hG hf hlo h1 h2 ls st H locs cells slots hM hL hS kk
  obtain ⟨u, hu, x, rfl, hx⟩ := xRL_at hL ha
  exact lv_iload_n C.1 C.2.1 hd rfl hu (kk _ _ _ _ _ _ hM hL ⟨_, _, rfl, ⟨_, rfl, hx⟩, hS⟩)
theorem s_iload {i : Nat} (hd : decode cc pc = .ok (.iload i, 2)) : xSound PX G cc own ini pc (x_iload i (pc + 2)) := by
  intro call d hc L S w pc' L' S' w' h
  obtain ⟨a, ha, hr⟩ := x_iload_eq h
  cases hr
  refine ⟨xLe_rf, ?_⟩
  intro p l e R s m args below meth c Q nL D tys sz b c0 s0 C hG hf hlo h1 h2 ls st H locs cells slots hM hL hS kk
  obtain ⟨u, hu, x, rfl, hx⟩ := xRL_at hL ha
  exact lv_iload C.1 C.2.1 hd hu (kk _ _ _ _ _ _ hM hL ⟨_, _, rfl, ⟨_, rfl, hx⟩, hS⟩)
theorem x_aload_eq {i n : Nat} {call : xC} {L : List (Option xV)} {S : List xV} {w : xW} {r : xS} (h : x_aload i n call L S w = some r) : ∃ k, xget L i = some (some (.inr (.inl (some k)))) ∧ r = (n, L, .inr (.inl (some k)) :: S, w) := by
  unfold x_aload at h
  split at h
  · rename_i a ha
    exact ⟨a, ha, (Option.some.inj h).symm⟩
  · cases h
theorem s_aload_n {k : Fin 4} (hd : decode cc pc = .ok (.aload_n k, 1)) : xSound PX G cc own ini pc (x_aload k (pc + 1)) := by
  intro call d hc L S w pc' L' S' w' h
  obtain ⟨a, ha, hr⟩ := x_aload_eq h
  cases hr
  refine ⟨xLe_rf, ?_⟩
  intro p l e R s m args below meth c Q nL D tys sz b c0 s0 C hG hf hlo h1 h2 ls st H locs cells slots hM hL hS kk
  obtain ⟨u, hu, rfl⟩ := xRL_at hL ha
  exact lv_aload_n C.1 C.2.1 hd rfl hu (kk _ _ _ _ _ _ hM hL ⟨_, _, rfl, rfl, hS⟩)
theorem s_aload {i : Nat} (hd : decode cc pc = .ok (.aload i, 2)) : xSound PX G cc own ini pc (x_aload i (pc + 2)) := by
  intro call d hc L S w pc' L' S' w' h
  obtain ⟨a, ha, hr⟩ := x_aload_eq h
  cases hr
  refine ⟨xLe_rf, ?_⟩
  intro p l e R s m args below meth c Q nL D tys sz b c0 s0 C hG hf hlo h1 h2 ls st H locs cells slots hM hL hS kk
  obtain ⟨u, hu, rfl⟩ := xRL_at hL ha
  exact lv_aload C.1 C.2.1 hd hu (kk _ _ _ _ _ _ hM hL ⟨_, _, rfl, rfl, hS⟩)
theorem s_sload_n {k : Fin 4} (hd : decode cc pc = .ok (.aload_n k, 1)) : xSound PX G cc own ini pc (x_sload k (pc + 1)) := by
  intro call d hc L S w pc' L' S' w' h
  unfold x_sload at h
  split at h
  · rename_i a ha
    cases h
    refine ⟨xLe_rf, ?_⟩
    intro p l e R s m args below meth c Q nL D tys sz b c0 s0 C hG hf hlo h1 h2 ls st H locs cells slots hM hL hS kk
    obtain ⟨u, hu, rfl⟩ := xRL_at hL ha
    exact lv_aload_n C.1 C.2.1 hd rfl hu (kk _ _ _ _ _ _ hM hL ⟨_, _, rfl, rfl, hS⟩)
  · cases h
theorem x_lload_eq {i n : Nat} {call : xC} {L : List (Option xV)} {S : List xV} {w : xW} {r : xS} (h : x_lload i n call L S w = some r) : xget L i = some (some (.inr (.inr 0))) ∧ r = (n, L, .inr (.inr 0) :: S, w) := by
  unfold x_lload at h
  split at h
  · rename_i ha
    exact ⟨ha, (Option.some.inj h).symm⟩
  · cases h
theorem s_lload_n {k : Fin 4} (hd : decode cc pc = .ok (.lload_n k, 1)) : xSound PX G cc own ini pc (x_lload k (pc + 1)) := by
  intro call d hc L S w pc' L' S' w' h
  obtain ⟨ha, hr⟩ := x_lload_eq h
  cases hr
  refine ⟨xLe_rf, ?_⟩
  intro p l e R s m args below meth c Q nL D tys sz b c0 s0 C hG hf hlo h1 h2 ls st H locs cells slots hM hL hS kk
  obtain ⟨u, hu, x, rfl⟩ := xRL_at hL ha
  exact lv_lload_n C.1 C.2.1 hd rfl hu (kk _ _ _ _ _ _ hM hL ⟨_, _, rfl, ⟨_, rfl⟩, hS⟩)
theorem s_lload {i : Nat} (hd : decode cc pc = .ok (.lload i, 2)) : xSound PX G cc own ini pc (x_lload i (pc + 2)) := by
  intro call d hc L S w pc' L' S' w' h
  obtain ⟨ha, hr⟩ := x_lload_eq h
  cases hr
  refine ⟨xLe_rf, ?_⟩
  intro p l e R s m args below meth c Q nL D tys sz b c0 s0 C hG hf hlo h1 h2 ls st H locs cells slots hM hL hS kk
  obtain ⟨u, hu, x, rfl⟩ := xRL_at hL ha
  exact lv_lload C.1 C.2.1 hd hu (kk _ _ _ _ _ _ hM hL ⟨_, _, rfl, ⟨_, rfl⟩, hS⟩)
end XS1
end
section
section XS2
variable {PX : xPX} {G : State → Nat → Nat → Prop} {cc : ByteArray} {own : String} {ini : Bool} {pc : Nat}
theorem xst_eq {L L' : List (Option xV)} {i : Nat} {v : xV} (h : xst L i v = some L') : i < L.length ∧ xlg (xget L (i - 1)) = false ∧ L' = L.set i (some v) := by
  unfold xst at h
  split at h
  · cases h
  · rename_i o ho
    rw [xget_eq] at ho
    cases hb : xlg (xget L (i - 1)) with
    | true => rw [hb] at h; cases h
    | false =>
      rw [hb] at h
      have h := (Option.some.inj h).symm
      rw [xset_eq] at h
      exact ⟨(List.getElem?_eq_some_iff.mp ho).1, rfl, h⟩
/-- a value is stored: what the locals are then -/
theorem xRL_st {sz b nL i : Nat} {L L' : List (Option xV)} {ls : Array Slot} {lv : List (Nat × Value)} {v : xV} {u : Value} (hst : xst L i v = some L') (hlen : L.length = nL) (hl : ∀ (i : Nat) (v : xV), xget L i = some (some v) → ∃ u : Value, (i, u) ∈ lv ∧ xRV sz b v u) (hv : xRV sz b v u) {ls' : Array Slot}
    (h' : lv_has ls' nL ((i, u) :: lv.filter (fun q => !(q.1 == i) && !(q.1 + 1 == i && q.2.category == 2)))) : xRL sz b L' ls' nL := by
  obtain ⟨h1, h2, rfl⟩ := xst_eq hst
  refine ⟨by rw [List.length_set]; exact hlen, _, h', fun j v' hj => ?_⟩
  rw [xget_eq] at hj
  by_cases hji : j = i
  · subst hji
    rw [List.getElem?_set_self h1] at hj
    cases hj
    exact ⟨u, List.mem_cons_self, hv⟩
  · rw [List.getElem?_set_ne (Ne.symm hji), ← xget_eq] at hj
    obtain ⟨u', h3, h4⟩ := hl j v' hj
    refine ⟨u', List.mem_cons_of_mem _ (List.mem_filter.mpr ⟨h3, ?_⟩), h4⟩
    have e1 : (j == i) = false := by simpa using hji
    simp only [e1, Bool.not_false, Bool.true_and]
    by_cases hj1 : j + 1 = i
    · have hv1 : x1 v' = true := by
        have e : xget L (i - 1) = some (some v') := by rw [show i - 1 = j by omega]; exact hj
        rw [e] at h2
        match v', h2 with
        | .inl a, _ => rfl
        | .inr (.inl r), _ => rfl
        | .inr (.inr 0), h2 => cases h2
        | .inr (.inr (k + 1)), _ => rfl
      have hc := xRV1 h4 hv1
      simp [hc]
    · simp [hj1]
theorem x_istore_eq {i n : Nat} {call : xC} {L : List (Option xV)} {S : List xV} {w : xW} {r : xS} (h : x_istore i n call L S w = some r) : ∃ a S0 L1, S = .inl a :: S0 ∧ xst L i (.inl a) = some L1 ∧ r = (n, L1, S0, w) := by
  unfold x_istore at h
  split at h
  · split at h
    · rename_i L1 hL1
      exact ⟨_, _, L1, rfl, hL1, (Option.some.inj h).symm⟩
    · cases h
  · cases h
theorem s_istore_n {k : Fin 4} (hd : decode cc pc = .ok (.istore_n k, 1)) : xSound PX G cc own ini pc (x_istore k (pc + 1)) := by
  intro call d hc L S w pc' L' S' w' h
  obtain ⟨a, S0, L1, rfl, hst, hr⟩ := x_istore_eq h
  cases hr
  refine ⟨xLe_rf, ?_⟩
  intro p l e R s m args below meth c Q nL D tys sz b c0 s0 C hG hf hlo h1 h2 ls st H locs cells slots hM hL hS kk
  obtain ⟨u, st', rfl, ⟨x, rfl, hx⟩, hS⟩ := hS
  obtain ⟨hlen, lv, hlv, hl⟩ := hL
  exact lv_istore_n C.1 C.2.1 hd rfl hlv (hlen ▸ (xst_eq hst).1) rfl (fun ls' h' => kk _ _ _ _ _ _ hM (xRL_st (ls := ls) hst hlen hl ⟨x, rfl, hx⟩ h') hS)
theorem s_istore {i : Nat} (hd : decode cc pc = .ok (.istore i, 2)) : xSound PX G cc own ini pc (x_istore i (pc + 2)) := by
  intro call d hc L S w pc' L' S' w' h
  obtain ⟨a, S0, L1, rfl, hst, hr⟩ := x_istore_eq h
  cases hr
  refine ⟨xLe_rf, ?_⟩
  intro p l e R s m args below meth c Q nL D tys sz b c0 s0 C hG hf hlo h1 h2 ls st H locs cells slots hM hL hS kk
  obtain ⟨u, st', rfl, ⟨x, rfl, hx⟩, hS⟩ := hS
  obtain ⟨hlen, lv, hlv, hl⟩ := hL
  exact lv_istore C.1 C.2.1 hd hlv (hlen ▸ (xst_eq hst).1) rfl (fun ls' h' => kk _ _ _ _ _ _ hM (xRL_st (ls := ls) hst hlen hl ⟨x, rfl, hx⟩ h') hS)
theorem x_astore_eq {i n : Nat} {call : xC} {L : List (Option xV)} {S : List xV} {w : xW} {r : xS} (h : x_astore i n call L S w = some r) : ∃ a S0 L1, S = .inr (.inl a) :: S0 ∧ xst L i (.inr (.inl a)) = some L1 ∧ r = (n, L1, S0, w) := by
  unfold x_astore at h
  split at h
  · split at h
    · rename_i L1 hL1
      exact ⟨_, _, L1, rfl, hL1, (Option.some.inj h).symm⟩
    · cases h
  · cases h
theorem s_astore_n {k : Fin 4} (hd : decode cc pc = .ok (.astore_n k, 1)) : xSound PX G cc own ini pc (x_astore k (pc + 1)) := by
  intro call d hc L S w pc' L' S' w' h
  obtain ⟨a, S0, L1, rfl, hst, hr⟩ := x_astore_eq h
  cases hr
  refine ⟨xLe_rf, ?_⟩
  intro p l e R s m args below meth c Q nL D tys sz b c0 s0 C hG hf hlo h1 h2 ls st H locs cells slots hM hL hS kk
  obtain ⟨u, st', rfl, hu, hS⟩ := hS
  obtain ⟨hlen, lv, hlv, hl⟩ := hL
  cases a with
  | none =>
    cases hu
    exact lv_astore_nN C.1 C.2.1 hd rfl hlv (hlen ▸ (xst_eq hst).1) rfl (fun ls' h' => kk _ _ _ _ _ _ hM (xRL_st (ls := ls) (u := .null) hst hlen hl rfl h') hS)
  | some a =>
    cases hu
    exact lv_astore_n C.1 C.2.1 hd rfl hlv (hlen ▸ (xst_eq hst).1) rfl (fun ls' h' => kk _ _ _ _ _ _ hM (xRL_st (ls := ls) (u := .ref (sz + a)) hst hlen hl rfl h') hS)
theorem s_astore {i : Nat} (hd : decode cc pc = .ok (.astore i, 2)) : xSound PX G cc own ini pc (x_astore i (pc + 2)) := by
  intro call d hc L S w pc' L' S' w' h
  obtain ⟨a, S0, L1, rfl, hst, hr⟩ := x_astore_eq h
  cases hr
  refine ⟨xLe_rf, ?_⟩
  intro p l e R s m args below meth c Q nL D tys sz b c0 s0 C hG hf hlo h1 h2 ls st H locs cells slots hM hL hS kk
  obtain ⟨u, st', rfl, hu, hS⟩ := hS
  obtain ⟨hlen, lv, hlv, hl⟩ := hL
  cases a with
  | none =>
    cases hu
    exact lv_astoreN C.1 C.2.1 hd hlv (hlen ▸ (xst_eq hst).1) rfl (fun ls' h' => kk _ _ _ _ _ _ hM (xRL_st (ls := ls) (u := .null) hst hlen hl rfl h') hS)
  | some a =>
    cases hu
    exact lv_astore C.1 C.2.1 hd hlv (hlen ▸ (xst_eq hst).1) rfl (fun ls' h' => kk _ _ _ _ _ _ hM (xRL_st (ls := ls) (u := .ref (sz + a)) hst hlen hl rfl h') hS)
theorem s_iinc {i : Nat} {n : Int} {k : Nat} (hd : decode cc pc = .ok (.iinc i n, 3)) (hk : xo (Int32.ofInt n) = k) : xSound PX G cc own ini pc (x_iinc i k (pc + 3)) := by
  intro call d hc L S w pc' L' S' w' h
  unfold x_iinc at h
  split at h
  · rename_i a ha
    split at h
    · rename_i L1 hst
      cases h
      refine ⟨xLe_rf, ?_⟩
      intro p l e R s m args below meth c Q nL D tys sz b c0 s0 C hG hf hlo h1 h2 ls st H locs cells slots hM hL hS kk
      obtain ⟨hlen, lv, hlv, hl⟩ := hL
      obtain ⟨u, hm, x, rfl, hx⟩ := hl i _ ha
      obtain ⟨q, hq⟩ := List.getElem?_of_mem hm
      exact lv_iinc C.1 C.2.1 hd hlv hq rfl (hlen ▸ (xst_eq hst).1) rfl (fun ls' h' => kk _ _ _ _ _ _ hM (xRL_st (ls := ls) hst hlen hl ⟨_, rfl, xbin_ok hx (hk ▸ xRI_c (Int32.ofInt n)) (xo_add _ _)⟩ h') hS)
    · cases h
  · cases h
theorem x_bin_eq {f : Nat → Nat → Nat} {n : Nat} {call : xC} {L : List (Option xV)} {S : List xV} {w : xW} {r : xS} (h : x_bin f n call L S w = some r) : ∃ b a S0, S = .inl b :: .inl a :: S0 ∧ r = (n, L, .inl (xbin f a b) :: S0, w) := by
  unfold x_bin at h
  split at h
  · exact ⟨_, _, _, rfl, (Option.some.inj h).symm⟩
  · cases h
theorem s_iadd (hd : decode cc pc = .ok (.iadd, 1)) : xSound PX G cc own ini pc (x_bin xfadd (pc + 1)) := by
  intro call d hc L S w pc' L' S' w' h
  obtain ⟨b2, a2, S0, rfl, hr⟩ := x_bin_eq h
  cases hr
  refine ⟨xLe_rf, ?_⟩
  intro p l e R s m args below meth c Q nL D tys sz b c0 s0 C hG hf hlo h1 h2 ls st H locs cells slots hM hL hS kk
  obtain ⟨u, st', rfl, ⟨y, rfl, hy⟩, u2, st2, rfl, ⟨x, rfl, hx⟩, hS⟩ := hS
  exact lv_iadd C.1 C.2.1 hd (kk _ _ _ _ _ _ hM hL ⟨_, _, rfl, ⟨_, rfl, xbin_ok hx hy (xo_add x y)⟩, hS⟩)
theorem s_isub (hd : decode cc pc = .ok (.isub, 1)) : xSound PX G cc own ini pc (x_bin xfsub (pc + 1)) := by
  intro call d hc L S w pc' L' S' w' h
  obtain ⟨b2, a2, S0, rfl, hr⟩ := x_bin_eq h
  cases hr
  refine ⟨xLe_rf, ?_⟩
  intro p l e R s m args below meth c Q nL D tys sz b c0 s0 C hG hf hlo h1 h2 ls st H locs cells slots hM hL hS kk
  obtain ⟨u, st', rfl, ⟨y, rfl, hy⟩, u2, st2, rfl, ⟨x, rfl, hx⟩, hS⟩ := hS
  exact lv_isub C.1 C.2.1 hd (kk _ _ _ _ _ _ hM hL ⟨_, _, rfl, ⟨_, rfl, xbin_ok hx hy (xo_sub x y)⟩, hS⟩)
theorem s_imul (hd : decode cc pc = .ok (.imul, 1)) : xSound PX G cc own ini pc (x_bin (xfg (fun x y => x * y)) (pc + 1)) := by
  intro call d hc L S w pc' L' S' w' h
  obtain ⟨b2, a2, S0, rfl, hr⟩ := x_bin_eq h
  cases hr
  refine ⟨xLe_rf, ?_⟩
  intro p l e R s m args below meth c Q nL D tys sz b c0 s0 C hG hf hlo h1 h2 ls st H locs cells slots hM hL hS kk
  obtain ⟨u, st', rfl, ⟨y, rfl, hy⟩, u2, st2, rfl, ⟨x, rfl, hx⟩, hS⟩ := hS
  exact lv_imul C.1 C.2.1 hd (kk _ _ _ _ _ _ hM hL ⟨_, _, rfl, ⟨_, rfl, xbin_ok hx hy (xfg_ok (fun x y => x * y) x y)⟩, hS⟩)
theorem s_iand (hd : decode cc pc = .ok (.iand, 1)) : xSound PX G cc own ini pc (x_bin (xfg (fun x y => x &&& y)) (pc + 1)) := by
  intro call d hc L S w pc' L' S' w' h
  obtain ⟨b2, a2, S0, rfl, hr⟩ := x_bin_eq h
  cases hr
  refine ⟨xLe_rf, ?_⟩
  intro p l e R s m args below meth c Q nL D tys sz b c0 s0 C hG hf hlo h1 h2 ls st H locs cells slots hM hL hS kk
  obtain ⟨u, st', rfl, ⟨y, rfl, hy⟩, u2, st2, rfl, ⟨x, rfl, hx⟩, hS⟩ := hS
  exact lv_iand C.1 C.2.1 hd (kk _ _ _ _ _ _ hM hL ⟨_, _, rfl, ⟨_, rfl, xbin_ok hx hy (xfg_ok (fun x y => x &&& y) x y)⟩, hS⟩)
theorem s_ior (hd : decode cc pc = .ok (.ior, 1)) : xSound PX G cc own ini pc (x_bin (xfg (fun x y => x ||| y)) (pc + 1)) := by
  intro call d hc L S w pc' L' S' w' h
  obtain ⟨b2, a2, S0, rfl, hr⟩ := x_bin_eq h
  cases hr
  refine ⟨xLe_rf, ?_⟩
  intro p l e R s m args below meth c Q nL D tys sz b c0 s0 C hG hf hlo h1 h2 ls st H locs cells slots hM hL hS kk
  obtain ⟨u, st', rfl, ⟨y, rfl, hy⟩, u2, st2, rfl, ⟨x, rfl, hx⟩, hS⟩ := hS
  exact lv_ior C.1 C.2.1 hd (kk _ _ _ _ _ _ hM hL ⟨_, _, rfl, ⟨_, rfl, xbin_ok hx hy (xfg_ok (fun x y => x ||| y) x y)⟩, hS⟩)
theorem s_ixor (hd : decode cc pc = .ok (.ixor, 1)) : xSound PX G cc own ini pc (x_bin (xfg (fun x y => x ^^^ y)) (pc + 1)) := by
  intro call d hc L S w pc' L' S' w' h
  obtain ⟨b2, a2, S0, rfl, hr⟩ := x_bin_eq h
  cases hr
  refine ⟨xLe_rf, ?_⟩
  intro p l e R s m args below meth c Q nL D tys sz b c0 s0 C hG hf hlo h1 h2 ls st H locs cells slots hM hL hS kk
  obtain ⟨u, st', rfl, ⟨y, rfl, hy⟩, u2, st2, rfl, ⟨x, rfl, hx⟩, hS⟩ := hS
  exact lv_ixor C.1 C.2.1 hd (kk _ _ _ _ _ _ hM hL ⟨_, _, rfl, ⟨_, rfl, xbin_ok hx hy (xfg_ok (fun x y => x ^^^ y) x y)⟩, hS⟩)
theorem s_ishl (hd : decode cc pc = .ok (.ishl, 1)) : xSound PX G cc own ini pc (x_bin (xfg (fun x y => x <<< (y &&& 31))) (pc + 1)) := by
  intro call d hc L S w pc' L' S' w' h
  obtain ⟨b2, a2, S0, rfl, hr⟩ := x_bin_eq h
  cases hr
  refine ⟨xLe_rf, ?_⟩
  intro p l e R s m args below meth c Q nL D tys sz b c0 s0 C hG hf hlo h1 h2 ls st H locs cells slots hM hL hS kk
  obtain ⟨u, st', rfl, ⟨y, rfl, hy⟩, u2, st2, rfl, ⟨x, rfl, hx⟩, hS⟩ := hS
  exact lv_ishl C.1 C.2.1 hd (kk _ _ _ _ _ _ hM hL ⟨_, _, rfl, ⟨_, rfl, xbin_ok hx hy (xfg_ok (fun x y => x <<< (y &&& 31)) x y)⟩, hS⟩)
theorem s_ishr (hd : decode cc pc = .ok (.ishr, 1)) : xSound PX G cc own ini pc (x_bin (xfg (fun x y => x >>> (y &&& 31))) (pc + 1)) := by
  intro call d hc L S w pc' L' S' w' h
  obtain ⟨b2, a2, S0, rfl, hr⟩ := x_bin_eq h
  cases hr
  refine ⟨xLe_rf, ?_⟩
  intro p l e R s m args below meth c Q nL D tys sz b c0 s0 C hG hf hlo h1 h2 ls st H locs cells slots hM hL hS kk
  obtain ⟨u, st', rfl, ⟨y, rfl, hy⟩, u2, st2, rfl, ⟨x, rfl, hx⟩, hS⟩ := hS
  exact lv_ishr C.1 C.2.1 hd (kk _ _ _ _ _ _ hM hL ⟨_, _, rfl, ⟨_, rfl, xbin_ok hx hy (xfg_ok (fun x y => x >>> (y &&& 31)) x y)⟩, hS⟩)
theorem s_iushr (hd : decode cc pc = .ok (.iushr, 1)) : xSound PX G cc own ini pc (x_bin (xfg (fun x y => (x.toUInt32 >>> (y.toUInt32 &&& Int32.toUInt32 31)).toInt32)) (pc + 1)) := by
  intro call d hc L S w pc' L' S' w' h
  obtain ⟨b2, a2, S0, rfl, hr⟩ := x_bin_eq h
  cases hr
  refine ⟨xLe_rf, ?_⟩
  intro p l e R s m args below meth c Q nL D tys sz b c0 s0 C hG hf hlo h1 h2 ls st H locs cells slots hM hL hS kk
  obtain ⟨u, st', rfl, ⟨y, rfl, hy⟩, u2, st2, rfl, ⟨x, rfl, hx⟩, hS⟩ := hS
  exact lv_iushr C.1 C.2.1 hd rfl (kk _ _ _ _ _ _ hM hL ⟨_, _, rfl, ⟨_, rfl, xbin_ok hx hy (xfg_ok (fun x y => (x.toUInt32 >>> (y.toUInt32 &&& Int32.toUInt32 31)).toInt32) x y)⟩, hS⟩)
theorem s_irem (hd : decode cc pc = .ok (.irem, 1)) : xSound PX G cc own ini pc (x_rem (pc + 1)) := by
  intro call d hc L S w pc' L' S' w' h
  unfold x_rem at h
  split at h
  · rename_i b2 a2 S0
    cases hcnd : (Nat.beq a2.1 a2.2 && (Nat.beq b2.1 b2.2 && (Nat.ble 2147483648 a2.1 && Nat.blt 2147483648 b2.1))) with
    | false => rw [hcnd] at h; cases h
    | true =>
      rw [hcnd] at h
      cases h
      simp only [Bool.and_eq_true, Nat.beq_eq] at hcnd
      obtain ⟨q1, q2, q3, q4⟩ := hcnd
      have q3 := xble q3
      have q4 := xblt q4
      refine ⟨xLe_rf, ?_⟩
      intro p l e R s m args below meth c Q nL D tys sz b c0 s0 C hG hf hlo h1 h2 ls st H locs cells slots hM hL hS kk
      obtain ⟨u, st', rfl, ⟨y, rfl, hy⟩, u2, st2, rfl, ⟨x, rfl, hx⟩, hS⟩ := hS
      have ex : xo x = a2.1 := Nat.le_antisymm (by rw [q1]; exact hx.2) hx.1
      have ey : xo y = b2.1 := Nat.le_antisymm (by rw [q2]; exact hy.2) hy.1
      have lx := xo_lt x
      have ly := xo_lt y
      have nx : x = nI (a2.1 - 2147483648) := xo_inj (by rw [ex, show nI (a2.1 - 2147483648) = Int32.ofNat (a2.1 - 2147483648) from rfl, xo_nat (by omega)]; omega)
      have ny : y = nI (b2.1 - 2147483648) := xo_inj (by rw [ey, show nI (b2.1 - 2147483648) = Int32.ofNat (b2.1 - 2147483648) from rfl, xo_nat (by omega)]; omega)
      have hlt : (a2.1 - 2147483648) % (b2.1 - 2147483648) < b2.1 - 2147483648 := Nat.mod_lt _ (by omega)
      have er : xo (x - x / y * y) = 2147483648 + (a2.1 - 2147483648) % (b2.1 - 2147483648) := by
        rw [nx, ny, pk_rem (by omega) (by omega) (by omega)]
        rw [show nI ((a2.1 - 2147483648) % (b2.1 - 2147483648)) = Int32.ofNat ((a2.1 - 2147483648) % (b2.1 - 2147483648)) from rfl, xo_nat (by omega)]
        omega
      have hy0 : ¬ y = 0 := fun q => by rw [q, xo_zero] at ey; omega
      exact lv_irem C.1 C.2.1 hd hy0 (kk _ _ _ _ _ _ hM hL ⟨_, _, rfl, ⟨_, rfl, by rw [← er]; exact xRI_c _⟩, hS⟩)
  · cases h
theorem s_i2b (hd : decode cc pc = .ok (.i2b, 1)) : xSound PX G cc own ini pc (x_un (fun o => xo ((xi o).toInt8.toInt32)) (pc + 1)) := by
  intro call d hc L S w pc' L' S' w' h
  unfold x_un at h
  split at h
  · cases h
    refine ⟨xLe_rf, ?_⟩
    intro p l e R s m args below meth c Q nL D tys sz b c0 s0 C hG hf hlo h1 h2 ls st H locs cells slots hM hL hS kk
    obtain ⟨u, st', rfl, ⟨x, rfl, hx⟩, hS⟩ := hS
    exact lv_i2b C.1 C.2.1 hd rfl (kk _ _ _ _ _ _ hM hL ⟨_, _, rfl, ⟨_, rfl, xun_ok hx (by rw [xi_xo])⟩, hS⟩)
  · cases h
theorem s_i2l (hd : decode cc pc = .ok (.i2l, 1)) : xSound PX G cc own ini pc (x_i2l (pc + 1)) := by
  intro call d hc L S w pc' L' S' w' h
  unfold x_i2l at h
  split at h
  · cases h
    refine ⟨xLe_rf, ?_⟩
    intro p l e R s m args below meth c Q nL D tys sz b c0 s0 C hG hf hlo h1 h2 ls st H locs cells slots hM hL hS kk
    obtain ⟨u, st', rfl, ⟨x, rfl, hx⟩, hS⟩ := hS
    exact lv_i2l C.1 C.2.1 hd rfl (kk _ _ _ _ _ _ hM hL ⟨_, _, rfl, ⟨_, rfl⟩, hS⟩)
  · cases h
theorem x_lbin_eq {n : Nat} {call : xC} {L : List (Option xV)} {S : List xV} {w : xW} {r : xS} (h : x_lbin n call L S w = some r) : ∃ S0, S = .inr (.inr 0) :: .inr (.inr 0) :: S0 ∧ r = (n, L, .inr (.inr 0) :: S0, w) := by
  unfold x_lbin at h
  split at h
  · exact ⟨_, rfl, (Option.some.inj h).symm⟩
  · cases h
theorem s_ladd (hd : decode cc pc = .ok (.ladd, 1)) : xSound PX G cc own ini pc (x_lbin (pc + 1)) := by
  intro call d hc L S w pc' L' S' w' h
  obtain ⟨S0, rfl, hr⟩ := x_lbin_eq h
  cases hr
  refine ⟨xLe_rf, ?_⟩
  intro p l e R s m args below meth c Q nL D tys sz b c0 s0 C hG hf hlo h1 h2 ls st H locs cells slots hM hL hS kk
  obtain ⟨u, st', rfl, ⟨y, rfl⟩, u2, st2, rfl, ⟨x, rfl⟩, hS⟩ := hS
  exact lv_ladd C.1 C.2.1 hd (kk _ _ _ _ _ _ hM hL ⟨_, _, rfl, ⟨_, rfl⟩, hS⟩)
theorem s_lmul (hd : decode cc pc = .ok (.lmul, 1)) : xSound PX G cc own ini pc (x_lbin (pc + 1)) := by
  intro call d hc L S w pc' L' S' w' h
  obtain ⟨S0, rfl, hr⟩ := x_lbin_eq h
  cases hr
  refine ⟨xLe_rf, ?_⟩
  intro p l e R s m args below meth c Q nL D tys sz b c0 s0 C hG hf hlo h1 h2 ls st H locs cells slots hM hL hS kk
  obtain ⟨u, st', rfl, ⟨y, rfl⟩, u2, st2, rfl, ⟨x, rfl⟩, hS⟩ := hS
  exact lv_lmul C.1 C.2.1 hd (kk _ _ _ _ _ _ hM hL ⟨_, _, rfl, ⟨_, rfl⟩, hS⟩)
theorem s_dup (hd : decode cc pc = .ok (.dup, 1)) : xSound PX G cc own ini pc (x_dup (pc + 1)) := by
  intro call d hc L S w pc' L' S' w' h
  unfold x_dup at h
  split at h
  · rename_i v S0
    cases hv : x1 v with
    | false => rw [hv] at h; cases h
    | true =>
      rw [hv] at h
      cases h
      refine ⟨xLe_rf, ?_⟩
      intro p l e R s m args below meth c Q nL D tys sz b c0 s0 C hG hf hlo h1 h2 ls st H locs cells slots hM hL hS kk
      obtain ⟨u, st', rfl, hu, hS⟩ := hS
      exact lv_dup C.1 C.2.1 hd (xRV1 hu hv) (kk _ _ _ _ _ _ hM hL ⟨_, _, rfl, hu, _, _, rfl, hu, hS⟩)
  · cases h
theorem s_dup2 (hd : decode cc pc = .ok (.dup2, 1)) : xSound PX G cc own ini pc (x_dup2 (pc + 1)) := by
  intro call d hc L S w pc' L' S' w' h
  unfold x_dup2 at h
  split at h
  · rename_i v u0 S0
    cases hv : (x1 v && x1 u0) with
    | false => rw [hv] at h; cases h
    | true =>
      rw [hv] at h
      cases h
      simp only [Bool.and_eq_true] at hv
      refine ⟨xLe_rf, ?_⟩
      intro p l e R s m args below meth c Q nL D tys sz b c0 s0 C hG hf hlo h1 h2 ls st H locs cells slots hM hL hS kk
      obtain ⟨u, st', rfl, hu, u2, st2, rfl, hu2, hS⟩ := hS
      exact lv_dup2_11 C.1 C.2.1 hd (xRV1 hu hv.1) (xRV1 hu2 hv.2) (kk _ _ _ _ _ _ hM hL ⟨_, _, rfl, hu, _, _, rfl, hu2, _, _, rfl, hu, _, _, rfl, hu2, hS⟩)
  · cases h
theorem s_goto {off : Int} {t : Nat} (hd : decode cc pc = .ok (.goto off, 3)) (ht : (pc : Int) + off = (t : Int)) : xSound PX G cc own ini pc (x_goto t) := by
  intro call d hc L S w pc' L' S' w' h
  cases h
  refine ⟨xLe_rf, ?_⟩
  intro p l e R s m args below meth c Q nL D tys sz b c0 s0 C hG hf hlo h1 h2 ls st H locs cells slots hM hL hS kk
  exact lv_goto C.1 C.2.1 hd ht (kk _ _ _ _ _ _ hM hL hS)
theorem s_ifnonnull {off : Int} {t : Nat} (hd : decode cc pc = .ok (.ifnonnull off, 3)) (ht : (pc : Int) + off = (t : Int)) : xSound PX G cc own ini pc (x_ifnonnull t (pc + 3)) := by
  intro call d hc L S w pc' L' S' w' h
  unfold x_ifnonnull at h
  split at h
  · cases h
    refine ⟨xLe_rf, ?_⟩
    intro p l e R s m args below meth c Q nL D tys sz b c0 s0 C hG hf hlo h1 h2 ls st H locs cells slots hM hL hS kk
    obtain ⟨u, st', rfl, hu, hS⟩ := hS
    cases hu
    exact lv_ifnonnullN C.1 C.2.1 hd (kk _ _ _ _ _ _ hM hL hS)
  · cases h
    refine ⟨xLe_rf, ?_⟩
    intro p l e R s m args below meth c Q nL D tys sz b c0 s0 C hG hf hlo h1 h2 ls st H locs cells slots hM hL hS kk
    obtain ⟨u, st', rfl, hu, hS⟩ := hS
    cases hu
    exact lv_ifnonnull C.1 C.2.1 hd ht (kk _ _ _ _ _ _ hM hL hS)
  · cases h
/-- the branch on an int -/
theorem x_if_eq {op t n : Nat} {call : xC} {L : List (Option xV)} {S : List xV} {w : xW} {r : xS} (h : x_if op t n call L S w = some r) : ∃ a S0 q, S = .inl a :: S0 ∧ xcmp op a (2147483648, 2147483648) = some q ∧ r = (bif q then t else n, L, S0, w) := by
  unfold x_if at h
  split at h
  · split at h
    · rename_i hq; exact ⟨_, _, true, rfl, hq, (Option.some.inj h).symm⟩
    · rename_i hq; exact ⟨_, _, false, rfl, hq, (Option.some.inj h).symm⟩
    · cases h
  · cases h
theorem x_icmp_eq {op t n : Nat} {call : xC} {L : List (Option xV)} {S : List xV} {w : xW} {r : xS} (h : x_icmp op t n call L S w = some r) : ∃ b a S0 q, S = .inl b :: .inl a :: S0 ∧ xcmp op a b = some q ∧ r = (bif q then t else n, L, S0, w) := by
  unfold x_icmp at h
  split at h
  · split at h
    · rename_i hq; exact ⟨_, _, _, true, rfl, hq, (Option.some.inj h).symm⟩
    · rename_i hq; exact ⟨_, _, _, false, rfl, hq, (Option.some.inj h).symm⟩
    · cases h
  · cases h
theorem xRI_z : xRI (2147483648, 2147483648) 0 := by
  have h := xRI_c 0
  rw [xo_zero] at h
  exact h
theorem s_if {op : Nat} {t n : Nat} (hrow : ∀ (p : Program) (l : Launch) (e : Env) (R : Room) (s : State) (m : MethodId) (args : Array Value) (below : List Frame) (meth : Method) (c : Code) (H : Heap) (locs : List Loc) (cells slots : Nat) (Q : State → Prop) (ls : Array Slot) (rest : List Value) (x : Int32), p.tables.exec = Jvm.exec → c.code = cc → (xcmpP op x 0 → W p l e R s m args below meth c H locs cells slots Q (F0 m t ls rest)) → (¬ xcmpP op x 0 → W p l e R s m args below meth c H locs cells slots Q (F0 m n ls rest)) → W p l e R s m args below meth c H locs cells slots Q (F0 m pc ls (.int x :: rest))) :
    xSound PX G cc own ini pc (x_if op t n) := by
  intro call d hc L S w pc' L' S' w' h
  obtain ⟨a, S0, q, rfl, hq, hr⟩ := x_if_eq h
  cases hr
  refine ⟨xLe_rf, ?_⟩
  intro p l e R s m args below meth c Q nL D tys sz b c0 s0 C hG hf hlo h1 h2 ls st H locs cells slots hM hL hS kk
  obtain ⟨u, st', rfl, ⟨x, rfl, hx⟩, hS⟩ := hS
  have hk := xcmp_ok hx xRI_z hq
  cases q with
  | true => exact hrow _ _ _ _ _ _ _ _ _ _ _ _ _ _ _ _ _ _ C.1 C.2.1 (fun _ => kk _ _ _ _ _ _ hM hL hS) (fun z => absurd (hk.1 rfl) z)
  | false => exact hrow _ _ _ _ _ _ _ _ _ _ _ _ _ _ _ _ _ _ C.1 C.2.1 (fun z => absurd z (hk.2 rfl)) (fun _ => kk _ _ _ _ _ _ hM hL hS)
theorem s_icmp {op : Nat} {t n : Nat} (hrow : ∀ (p : Program) (l : Launch) (e : Env) (R : Room) (s : State) (m : MethodId) (args : Array Value) (below : List Frame) (meth : Method) (c : Code) (H : Heap) (locs : List Loc) (cells slots : Nat) (Q : State → Prop) (ls : Array Slot) (rest : List Value) (x y : Int32), p.tables.exec = Jvm.exec → c.code = cc → (xcmpP op x y → W p l e R s m args below meth c H locs cells slots Q (F0 m t ls rest)) → (¬ xcmpP op x y → W p l e R s m args below meth c H locs cells slots Q (F0 m n ls rest)) → W p l e R s m args below meth c H locs cells slots Q (F0 m pc ls (.int y :: .int x :: rest))) :
    xSound PX G cc own ini pc (x_icmp op t n) := by
  intro call d hc L S w pc' L' S' w' h
  obtain ⟨b2, a, S0, q, rfl, hq, hr⟩ := x_icmp_eq h
  cases hr
  refine ⟨xLe_rf, ?_⟩
  intro p l e R s m args below meth c Q nL D tys sz b c0 s0 C hG hf hlo h1 h2 ls st H locs cells slots hM hL hS kk
  obtain ⟨u, st', rfl, ⟨y, rfl, hy⟩, u2, st2, rfl, ⟨x, rfl, hx⟩, hS⟩ := hS
  have hk := xcmp_ok hx hy hq
  cases q with
  | true => exact hrow _ _ _ _ _ _ _ _ _ _ _ _ _ _ _ _ _ _ _ C.1 C.2.1 (fun _ => kk _ _ _ _ _ _ hM hL hS) (fun z => absurd (hk.1 rfl) z)
  | false => exact hrow _ _ _ _ _ _ _ _ _ _ _ _ _ _ _ _ _ _ _ C.1 C.2.1 (fun z => absurd z (hk.2 rfl)) (fun _ => kk _ _ _ _ _ _ hM hL hS)
theorem s_ifeq {off : Int} {t : Nat} (hd : decode cc pc = .ok (.ifCond .eq off, 3)) (ht : (pc : Int) + off = (t : Int)) : xSound PX G cc own ini pc (x_if 0 t (pc + 3)) := s_if (fun _ _ _ _ _ _ _ _ _ _ _ _ _ _ _ _ _ _ hx hb a b => lv_if_eq hx hb hd ht a b)
theorem s_ifne {off : Int} {t : Nat} (hd : decode cc pc = .ok (.ifCond .ne off, 3)) (ht : (pc : Int) + off = (t : Int)) : xSound PX G cc own ini pc (x_if 1 t (pc + 3)) := s_if (fun _ _ _ _ _ _ _ _ _ _ _ _ _ _ _ _ _ _ hx hb a b => lv_if_ne hx hb hd ht a (fun q => b (fun n => n q)))
theorem s_iflt {off : Int} {t : Nat} (hd : decode cc pc = .ok (.ifCond .lt off, 3)) (ht : (pc : Int) + off = (t : Int)) : xSound PX G cc own ini pc (x_if 2 t (pc + 3)) := s_if (fun _ _ _ _ _ _ _ _ _ _ _ _ _ _ _ _ _ _ hx hb a b => lv_if_lt hx hb hd ht a b)
theorem s_ifge {off : Int} {t : Nat} (hd : decode cc pc = .ok (.ifCond .ge off, 3)) (ht : (pc : Int) + off = (t : Int)) : xSound PX G cc own ini pc (x_if 3 t (pc + 3)) := s_if (fun _ _ _ _ _ _ _ _ _ _ _ _ _ _ _ _ _ _ hx hb a b => lv_if_ge hx hb hd ht a b)
theorem s_ifgt {off : Int} {t : Nat} (hd : decode cc pc = .ok (.ifCond .gt off, 3)) (ht : (pc : Int) + off = (t : Int)) : xSound PX G cc own ini pc (x_if 4 t (pc + 3)) := s_if (fun _ _ _ _ _ _ _ _ _ _ _ _ _ _ _ _ _ _ hx hb a b => lv_if_gt hx hb hd ht a b)
theorem s_ifle {off : Int} {t : Nat} (hd : decode cc pc = .ok (.ifCond .le off, 3)) (ht : (pc : Int) + off = (t : Int)) : xSound PX G cc own ini pc (x_if 5 t (pc + 3)) := s_if (fun _ _ _ _ _ _ _ _ _ _ _ _ _ _ _ _ _ _ hx hb a b => lv_if_le hx hb hd ht a b)
theorem s_icmpeq {off : Int} {t : Nat} (hd : decode cc pc = .ok (.if_icmp .eq off, 3)) (ht : (pc : Int) + off = (t : Int)) : xSound PX G cc own ini pc (x_icmp 0 t (pc + 3)) := s_icmp (fun _ _ _ _ _ _ _ _ _ _ _ _ _ _ _ _ _ _ _ hx hb a b => lv_icmp_eq hx hb hd ht a b)
theorem s_icmpne {off : Int} {t : Nat} (hd : decode cc pc = .ok (.if_icmp .ne off, 3)) (ht : (pc : Int) + off = (t : Int)) : xSound PX G cc own ini pc (x_icmp 1 t (pc + 3)) := s_icmp (fun _ _ _ _ _ _ _ _ _ _ _ _ _ _ _ _ _ _ _ hx hb a b => lv_icmp_ne hx hb hd ht a (fun q => b (fun n => n q)))
theorem s_icmplt {off : Int} {t : Nat} (hd : decode cc pc = .ok (.if_icmp .lt off, 3)) (ht : (pc : Int) + off = (t : Int)) : xSound PX G cc own ini pc (x_icmp 2 t (pc + 3)) := s_icmp (fun _ _ _ _ _ _ _ _ _ _ _ _ _ _ _ _ _ _ _ hx hb a b => lv_icmp_lt hx hb hd ht a b)
theorem s_icmpge {off : Int} {t : Nat} (hd : decode cc pc = .ok (.if_icmp .ge off, 3)) (ht : (pc : Int) + off = (t : Int)) : xSound PX G cc own ini pc (x_icmp 3 t (pc + 3)) := s_icmp (fun _ _ _ _ _ _ _ _ _ _ _ _ _ _ _ _ _ _ _ hx hb a b => lv_icmp_ge hx hb hd ht a b)
theorem s_icmpgt {off : Int} {t : Nat} (hd : decode cc pc = .ok (.if_icmp .gt off, 3)) (ht : (pc : Int) + off = (t : Int)) : xSound PX G cc own ini pc (x_icmp 4 t (pc + 3)) := s_icmp (fun _ _ _ _ _ _ _ _ _ _ _ _ _ _ _ _ _ _ _ hx hb a b => lv_icmp_gt hx hb hd ht a b)
theorem s_icmple {off : Int} {t : Nat} (hd : decode cc pc = .ok (.if_icmp .le off, 3)) (ht : (pc : Int) + off = (t : Int)) : xSound PX G cc own ini pc (x_icmp 5 t (pc + 3)) := s_icmp (fun _ _ _ _ _ _ _ _ _ _ _ _ _ _ _ _ _ _ _ hx hb a b => lv_icmp_le hx hb hd ht a b)
theorem s_tsw {dflt lo hi : Int} {offs : Array Int} {len : Nat} {k df : Nat} {ts : List Nat} (hd : decode cc pc = .ok (.tableswitch dflt lo hi offs, len)) (hk : lo + 2147483648 = (k : Int)) (hh : hi + 1 = lo + (ts.length : Int)) (hdf : (pc : Int) + dflt = (df : Int)) (hts : ∀ (i t : Nat), xget ts i = some t → ∃ off, offs[i]? = some off ∧ (pc : Int) + off = (t : Int)) : xSound PX G cc own ini pc (x_tsw k ts df) := by
  intro call d hc L S w pc' L' S' w' h
  unfold x_tsw at h
  split at h
  · rename_i a S0
    cases hc1 : (Nat.blt a.2 k || Nat.ble (k + ts.length) a.1) with
    | true =>
      rw [hc1] at h
      cases h
      refine ⟨xLe_rf, ?_⟩
      intro p l e R s m args below meth c Q nL D tys sz b c0 s0 C hG hf hlo h1 h2 ls st H locs cells slots hM hL hS kk
      obtain ⟨u, st', rfl, ⟨x, rfl, hx⟩, hS⟩ := hS
      have hxi := xo_int x
      refine lv_tableOut C.1 C.2.1 hd ?_ hdf (kk _ _ _ _ _ _ hM hL hS)
      obtain ⟨x1, x2⟩ := hx
      simp only [Bool.or_eq_true] at hc1
      rcases hc1 with q | q
      · have := xblt q; left; omega
      · have := xble q; right; omega
    | false =>
      rw [hc1] at h
      cases hc2 : Nat.beq a.1 a.2 with
      | false => rw [hc2] at h; cases h
      | true =>
        rw [hc2] at h
        have e2 := Nat.eq_of_beq_eq_true hc2
        cases ht : xget ts (a.1 - k) with
        | none => simp only [ht] at h; cases h
        | some t =>
          simp only [ht] at h
          cases h
          refine ⟨xLe_rf, ?_⟩
          intro p l e R s m args below meth c Q nL D tys sz b c0 s0 C hG hf hlo h1 h2 ls st H locs cells slots hM hL hS kk
          obtain ⟨u, st', rfl, ⟨x, rfl, hx⟩, hS⟩ := hS
          have hxi := xo_int x
          obtain ⟨x1, x2⟩ := hx
          obtain ⟨off, ho, htg⟩ := hts _ _ ht
          have hl : a.1 - k < ts.length := by rw [xget_eq] at ht; exact (List.getElem?_eq_some_iff.mp ht).1
          simp only [Bool.or_eq_false_iff] at hc1
          have n1 : k ≤ a.2 := by
            rcases Nat.lt_or_ge a.2 k with q | q
            · have : Nat.blt a.2 k = true := Nat.ble_eq_true_of_le q
              rw [this] at hc1; cases hc1.1
            · exact q
          refine lv_tableIn C.1 C.2.1 hd (by omega) (by omega) (off := off) ?_ htg (kk _ _ _ _ _ _ hM hL hS)
          rw [show (x.toInt - lo).toNat = a.1 - k by omega]
          exact ho
  · cases h
end XS2
end
section
/-! ===== fields, arrays, new cells ===== -/
noncomputable def x_getf (ci k n : Nat) : xF := fun _ L S w => match S with
  | .inr (.inl (some a)) :: S => (match xwg w a with
    | some (.inr (.inr (c, fs))) => bif Nat.beq c ci then (match xget fs k with
      | some v => some (n, L, v :: S, w)
      | none => none) else none
    | _ => none)
  | _ => none
/-- may it stand in a field: 0 an int's, 1 a boolean's, 2 a reference's -/
def xfit (kd : Nat) (v : xV) : Bool := match kd, v with
  | 0, .inl _ => true
  | 1, .inl a => Nat.ble 2147483648 a.1 && Nat.ble a.2 2147483649
  | 2, .inr (.inl _) => true
  | _, _ => false
noncomputable def x_putf (ci k kd n : Nat) : xF := fun _ L S w => match S with
  | v :: .inr (.inl (some a)) :: S => (match xwg w a with
    | some (.inr (.inr (c, fs))) => bif Nat.beq c ci && (xfit kd v && Nat.blt k fs.length) then some (n, L, S, xws w a (.inr (.inr (c, xset v fs k)))) else none
    | _ => none)
  | _ => none
/-- an index that is known -/
def xix (i : Nat × Nat) (n : Nat) : Option Nat := bif Nat.beq i.1 i.2 && (Nat.ble 2147483648 i.1 && Nat.blt i.1 (n + 2147483648)) then some (i.1 - 2147483648) else none
noncomputable def x_iald (n : Nat) : xF := fun _ L S w => match S with
  | .inl i :: .inr (.inl (some a)) :: S => (match xwg w a with
    | some (.inl (0, len, d, us)) => (match xix i len with
      | some j => some (n, L, .inl (xlk us d j) :: S, w)
      | none => none)
    | _ => none)
  | _ => none
noncomputable def x_bald (n : Nat) : xF := fun _ L S w => match S with
  | .inl i :: .inr (.inl (some a)) :: S => (match xwg w a with
    | some (.inl (1, len, d, us)) => (match xix i len with
      | some j => some (n, L, .inl (xlk us d j) :: S, w)
      | none => none)
    | some (.inl (2, len, d, us)) => (match xix i len with
      | some j => some (n, L, .inl (xlk us d j) :: S, w)
      | none => none)
    | _ => none)
  | _ => none
noncomputable def x_aald (n : Nat) : xF := fun _ L S w => match S with
  | .inl i :: .inr (.inl (some a)) :: S => (match xwg w a with
    | some (.inr (.inl (t, len, us))) => (match xix i len with
      | some j => some (n, L, .inr (.inl (xlq us j)) :: S, w)
      | none => none)
    | _ => none)
  | _ => none
/-- an int is put into an array: nothing is written where it stands already -/
noncomputable def xup (w : xW) (a t len : Nat) (d : Nat × Nat) (us : List (Nat × Nat × Nat)) (j : Nat) (v : Nat × Nat) : xW :=
  bif Nat.beq (xlk us d j).1 v.1 && Nat.beq (xlk us d j).2 v.2 then w else xws w a (.inl (t, len, d, xlp us j v))
noncomputable def x_iast (n : Nat) : xF := fun _ L S w => match S with
  | .inl v :: .inl i :: .inr (.inl (some a)) :: S => (match xwg w a with
    | some (.inl (0, len, d, us)) => (match xix i len with
      | some j => some (n, L, S, xup w a 0 len d us j v)
      | none => none)
    | _ => none)
  | _ => none
def xnb (v : Nat × Nat) : Nat × Nat := bif Nat.ble 2147483520 v.1 && Nat.ble v.2 2147483775 then v else (2147483520, 2147483775)
noncomputable def x_bast (n : Nat) : xF := fun _ L S w => match S with
  | .inl v :: .inl i :: .inr (.inl (some a)) :: S => (match xwg w a with
    | some (.inl (1, len, d, us)) => (match xix i len with
      | some j => some (n, L, S, xup w a 1 len d us j (xnb v))
      | none => none)
    | some (.inl (2, len, d, us)) => (match xix i len with
      | some j => bif Nat.ble 2147483648 v.1 && Nat.ble v.2 2147483649 then some (n, L, S, xup w a 2 len d us j v) else none
      | none => none)
    | _ => none)
  | _ => none
noncomputable def x_last (n : Nat) : xF := fun _ L S w => match S with
  | .inr (.inr 0) :: .inl i :: .inr (.inl (some a)) :: S => (match xwg w a with
    | some (.inl (3, len, _, _)) => (match xix i len with
      | some _ => some (n, L, S, w)
      | none => none)
    | _ => none)
  | _ => none
noncomputable def x_alen (n : Nat) : xF := fun _ L S w => match S with
  | .inr (.inl (some a)) :: S => (match xwg w a with
    | some (.inl (0, len, _, _)) => some (n, L, .inl (len + 2147483648, len + 2147483648) :: S, w)
    | _ => none)
  | _ => none
section XS3
variable {PX : xPX} {G : State → Nat → Nat → Prop} {cc : ByteArray} {own : String} {ini : Bool} {pc : Nat}
theorem xgood (C : String) (T : u_T) (N : Nat) : ∀ w ∈ u_ws C T N, goodWord w = true := by
  intro w h
  obtain ⟨k, -, rfl⟩ := List.mem_map.mp h
  unfold u_lay
  split <;> rfl
theorem xin1 {C : String} {T : u_T} {N : Nat} (h : ∀ w ∈ u_ws C T N, w ∈ lw_tbl) : ∀ w ∈ u_ws C T N, w ∈ xTB := fun w hw => xmem (h w hw) (xgood C T N w hw)
theorem xcell {sz b a : Nat} {tys : List (ClassId × FieldType)} {w : xW} {ws : va_W} {e : xE} (h : xRW sz b tys w ws) (ha : xwg w a = some e) : ∃ u, ws[a]? = some (sz + a, u) ∧ xRE sz b tys e u := h.2.1 a e ha
theorem s_getf {index ci k : Nat} {C : String} {T : u_T} {N : Nat} (hd : decode cc pc = .ok (.getfield index, 3)) (hcl : vwCl[ci]? = some (C, T, N)) (hin : ∀ w ∈ u_ws C T N, w ∈ lw_tbl) (hk : k < N) (hw : Cond.fieldLink own index (T k).1 (T k).2.1 (T k).2.2.1 ∈ xTB) : xSound PX G cc own ini pc (x_getf ci k (pc + 3)) := by
  intro call d hc L S w pc' L' S' w' h
  unfold x_getf at h
  split at h
  · rename_i a S0
    split at h
    · rename_i c1 fs ha
      cases hb : Nat.beq c1 ci with
      | false => rw [hb] at h; cases h
      | true =>
        rw [hb] at h
        have e1 := Nat.eq_of_beq_eq_true hb
        subst e1
        cases hv : xget fs k with
        | none => simp only [hv] at h; cases h
        | some v =>
          simp only [hv] at h
          cases h
          refine ⟨xLe_rf, ?_⟩
          intro p l e R s m args below meth c Q nL D tys sz b c0 s0 C1 hG hf hlo h1 h2 ls st H locs cells slots hM hL hS kk
          obtain ⟨u, st', rfl, hu, hS⟩ := hS
          cases hu
          obtain ⟨⟨ws, hR, hP⟩, hM2⟩ := id hM
          obtain ⟨u, hu, vs, rfl, hvs⟩ := xcell hR ha
          rw [xget_eq] at hv
          obtain ⟨x, hx, hxv⟩ := xRS_get hvs hv
          exact va_get C1.1 C1.2.1 C1.2.2.2.2.1 (xin1 hin) C1.2.2.2.1 C1.2.2.2.2.2.1 hP a hu hcl k hk (C1.2.2.2.2.1 _ hw) (fun _ h9 => h9) hx hd (kk _ _ _ _ _ _ hM hL ⟨_, _, rfl, hxv, hS⟩)
    · cases h
  · cases h
theorem x_putf_eq {ci k kd n : Nat} {call : xC} {L : List (Option xV)} {S : List xV} {w : xW} {r : xS} (h : x_putf ci k kd n call L S w = some r) : ∃ v a S0 fs, S = v :: .inr (.inl (some a)) :: S0 ∧ xwg w a = some (.inr (.inr (ci, fs))) ∧ xfit kd v = true ∧ k < fs.length ∧ r = (n, L, S0, xws w a (.inr (.inr (ci, fs.set k v)))) := by
  unfold x_putf at h
  split at h
  · split at h
    · rename_i v a S0 _ c1 fs ha
      cases hb : (Nat.beq c1 ci && (xfit kd v && Nat.blt k fs.length)) with
      | false => rw [hb] at h; cases h
      | true =>
        rw [hb] at h
        simp only [Bool.and_eq_true] at hb
        have e1 := Nat.eq_of_beq_eq_true hb.1
        subst e1
        have h := (Option.some.inj h).symm
        rw [xset_eq] at h
        exact ⟨v, a, S0, fs, rfl, ha, hb.2.1, xblt hb.2.2, h⟩
    · cases h
  · cases h
def xkd (kd : Nat) (ty : FieldType) : Prop := (kd = 0 ∧ ty = .int) ∨ (kd = 1 ∧ ty = .boolean) ∨ (kd = 2 ∧ ((∃ C, ty = .object C) ∨ ∃ t, ty = .array t))
theorem xz1 {x : Int32} (h1 : 2147483648 ≤ xo x) (h2 : xo x ≤ 2147483649) : x = 0 ∨ x = 1 := by
  have e1 : xo 1 = 2147483649 := by decide +kernel
  rcases Nat.lt_or_ge (xo x) 2147483649 with q | q
  · exact Or.inl (xo_inj (by rw [xo_zero]; omega))
  · exact Or.inr (xo_inj (by rw [e1]; omega))
theorem xfit_ok {kd sz b : Nat} {ty : FieldType} {v : xV} {u : Value} (hk : xkd kd ty) (hf : xfit kd v = true) (hv : xRV sz b v u) : narrow ty u = u ∧ fits ty u = true := by
  rcases hk with ⟨rfl, rfl⟩ | ⟨rfl, rfl⟩ | ⟨rfl, hk⟩
  · match v, hf, hv with
    | .inl a, _, hv =>
      obtain ⟨x, rfl, -⟩ := hv
      exact ⟨rfl, rfl⟩
  · match v, hf, hv with
    | .inl a, hf, hv =>
      obtain ⟨x, rfl, hx1, hx2⟩ := hv
      simp only [xfit, Bool.and_eq_true] at hf
      rcases xz1 (x := x) (Nat.le_trans (xble hf.1) hx1) (Nat.le_trans hx2 (xble hf.2)) with rfl | rfl
      · exact ⟨by decide +kernel, by decide +kernel⟩
      · exact ⟨by decide +kernel, by decide +kernel⟩
  · match v, hf, hv with
    | .inr (.inl none), _, hv =>
      cases hv
      rcases hk with ⟨C, rfl⟩ | ⟨t, rfl⟩ <;> exact ⟨rfl, rfl⟩
    | .inr (.inl (some a)), _, hv =>
      cases hv
      rcases hk with ⟨C, rfl⟩ | ⟨t, rfl⟩ <;> exact ⟨rfl, rfl⟩
theorem xLe_set {w : xW} {a : Nat} {e : xE} : xLe w (xws w a e) := by
  have h := xws_nums w a e
  exact ⟨by rw [h.2]; exact Nat.le_refl _, by rw [h.1]; exact Nat.le_refl _⟩
theorem xMem_set {D : va_G} {tys : List (ClassId × FieldType)} {sz b c0 s0 : Nat} {s : State} {w : xW} {ws : va_W} {H H1 : Heap} {locs locs1 : List Loc} {cells slots a : Nat} {e0 e : xE} {u : va_E} (hM : xMem D tys sz b s c0 s0 w H locs cells slots) (hR : xRW sz b tys w ws) (ha : xwg w a = some e0) (hu : xRE sz b tys e u)
    (hP : va_P D vwCl (ws.set a (sz + a, u)) H1) (hz : H1.size = H.size) (hS : va_S (fun q => sz ≤ q) s.heap H1 locs1) : xMem D tys sz b s c0 s0 (xws w a e) H1 locs1 cells slots := by
  obtain ⟨-, h1, -, h3, h4, h5⟩ := hM
  have hn := xws_nums w a e
  exact ⟨⟨_, xRW_set hR ha hu, hP⟩, by rw [hz, hn.2]; exact h1, hS, by rw [hn.2]; exact h3, by rw [hn.1]; exact h4, h5⟩
theorem s_putf {index ci k kd : Nat} {C : String} {T : u_T} {N : Nat} {ty : Nat → FieldType} (hd : decode cc pc = .ok (.putfield index, 3)) (hcl : vwCl[ci]? = some (C, T, N)) (hin : ∀ w ∈ u_ws C T N, w ∈ lw_tbl) (hty : ∀ k, k < N → parseFieldDescriptor (T k).2.2.1 = some (ty k)) (hnm : ∀ a, a < N → ∀ b, b < N → a ≠ b → (T a).2.1 ≠ (T b).2.1) (hk : k < N) (hw : Cond.fieldLink own index (T k).1 (T k).2.1 (T k).2.2.1 ∈ xTB) (hkd : xkd kd (ty k)) (hfin : (T k).2.2.2 = false) : xSound PX G cc own ini pc (x_putf ci k kd (pc + 3)) := by
  intro call d hc L S w pc' L' S' w' h
  obtain ⟨v, a, S0, fs, rfl, ha, hfit, hkl, hr⟩ := x_putf_eq h
  cases hr
  refine ⟨xLe_set, ?_⟩
  intro p l e R s m args below meth c Q nL D tys sz b c0 s0 C1 hG hf hlo h1 h2 ls st H locs cells slots hM hL hS kk
  obtain ⟨x, st', rfl, hx, u2, st2, rfl, hu, hS⟩ := hS
  cases hu
  obtain ⟨⟨ws, hR, hP⟩, hz, hS0, hM2⟩ := id hM
  obtain ⟨u, hu, vs, rfl, hvs⟩ := xcell hR ha
  obtain ⟨hn, hft⟩ := xfit_ok hkd hfit hx
  obtain ⟨hx0, hb, hml, hown, hts, hK, hmap, hini⟩ := C1
  have hD := xRW_D hR
  have hin := xin1 hin
  have hap := va_apart (own := own) hts hin ty hty hnm hK hcl
  obtain ⟨r, g1, cell, q1, q2, q3, q4⟩ := hP a _ hu
  have hr : r = (C, T, N) := Option.some.inj (g1.symm.trans hcl)
  subst hr
  obtain ⟨hSl, hfc, kC, hkC, hkind⟩ := hK.1 ci _ hcl
  obtain ⟨cf, kf, fi, f, hi, hsl⟩ := hSl k hk
  have hlay := hts _ (hin _ (u_in_lay hk))
  unfold u_lay at hlay
  rw [if_neg (by rw [hfin]; decide)] at hlay
  have hst := (u_facts hfc hkC (u_lays hts hin hk) hi).1
  have h6 := u_store hfc hkC hkind hlay hi (hty k hk) hn hft
  refine W.putK hx0 hb (f := f) ⟨hown, hts _ hw, ⟨_, _, _, hi⟩, hst⟩ (by rw [q2]; exact h6) q1 q3 (by rw [hsl]; exact k2_hasslot (q4 k hk)) rfl rfl hd fun H' e1 e2 e3 => ?_
  rw [hsl] at e1 ⊢
  have hl : k < vs.length := by rw [xRS_len hvs]; exact hkl
  have hP' : va_P D vwCl (ws.set a (sz + a, .inr (ci, vs.set k x))) H' := hP.set hD hu ⟨_, hcl, t_OB.to (V := updV (vp_V vs) k x) ⟨_, e1, q2, q3, t_set q4 hap hk x⟩ (fun j _ => vp_updV_set hl x j)⟩ e3
  exact kk _ _ _ _ _ _ (xMem_set hM hR ha (e := .inr (.inr (ci, fs.set k v))) ⟨vs.set k x, rfl, xRS_set hx k hvs⟩ hP' e2 (hS0.put e2 e3 (Nat.le_add_right sz a))) hL hS
end XS3
end
section
/-- new cells; fs, d: what stands in them -/
noncomputable def x_new (ci N : Nat) (fs : List xV) (n : Nat) : xF := fun _ L S w => match xwp w (.inr (.inr (ci, fs))) N with
  | some w' => some (n, L, .inr (.inl (some w.2.1)) :: S, w')
  | none => none
noncomputable def x_newa (t n : Nat) : xF := fun _ L S w => match S with
  | .inl i :: S => bif Nat.beq i.1 i.2 && (Nat.ble 2147483648 i.1 && Nat.blt i.1 2148483648) then (match xwp w (.inl (t, i.1 - 2147483648, (2147483648, 2147483648), [])) (i.1 - 2147483648) with
    | some w' => some (n, L, .inr (.inl (some w.2.1)) :: S, w')
    | none => none) else none
  | _ => none
noncomputable def x_newq (n : Nat) : xF := fun _ L S w => match S with
  | .inl i :: S => bif Nat.beq i.1 i.2 && (Nat.ble 2147483648 i.1 && Nat.blt i.1 2148483648) then (match xwp w (.inr (.inl (4, i.1 - 2147483648, []))) (i.1 - 2147483648) with
    | some w' => some (n, L, .inr (.inl (some w.2.1)) :: S, w')
    | none => none) else none
  | _ => none
noncomputable def x_aast (ci n : Nat) : xF := fun _ L S w => match S with
  | .inr (.inl (some v)) :: .inl i :: .inr (.inl (some a)) :: S => (match xwg w a with
    | some (.inr (.inl (t, len, us))) => (match xix i len with
      | some j => (match xwg w v with
        | some (.inr (.inr (c, _))) => bif Nat.beq c ci then some (n, L, S, xws w a (.inr (.inl (t, len, (j, v) :: us)))) else none
        | _ => none)
      | none => none)
    | _ => none)
  | _ => none
theorem fb_byte0 {x : Int32} (h1 : -128 ≤ x.toInt) (h2 : x.toInt < 128) : x.toInt8.toInt32 = x := by
  apply Int32.toInt_inj.mp
  rw [Int8.toInt_toInt32, Int32.toInt_toInt8, Int.bmod_def]
  omega
theorem fb_byte_rng0 (x : Int32) : -128 ≤ x.toInt8.toInt32.toInt ∧ x.toInt8.toInt32.toInt < 128 := by
  rw [Int8.toInt_toInt32, Int32.toInt_toInt8, Int.bmod_def]
  omega
section XS4
variable {PX : xPX} {G : State → Nat → Nat → Prop} {cc : ByteArray} {own : String} {ini : Bool} {pc : Nat}
theorem s_putF {index ci k kd : Nat} {C : String} {T : u_T} {N : Nat} {ty : Nat → FieldType} (hd : decode cc pc = .ok (.putfield index, 3)) (hcl : vwCl[ci]? = some (C, T, N)) (hin : ∀ w ∈ u_ws C T N, w ∈ lw_tbl) (hty : ∀ k, k < N → parseFieldDescriptor (T k).2.2.1 = some (ty k)) (hnm : ∀ a, a < N → ∀ b, b < N → a ≠ b → (T a).2.1 ≠ (T b).2.1) (hk : k < N) (hw : Cond.fieldLink own index (T k).1 (T k).2.1 (T k).2.2.1 ∈ xTB) (hkd : xkd kd (ty k)) (hfin : (T k).2.2.2 = true) (hi2 : ini = true) (hdecl : (T k).1 = own) : xSound PX G cc own ini pc (x_putf ci k kd (pc + 3)) := by
  intro call d hc L S w pc' L' S' w' h
  obtain ⟨v, a, S0, fs, rfl, ha, hfit, hkl, hr⟩ := x_putf_eq h
  cases hr
  refine ⟨xLe_set, ?_⟩
  intro p l e R s m args below meth c Q nL D tys sz b c0 s0 C1 hG hf hlo h1 h2 ls st H locs cells slots hM hL hS kk
  obtain ⟨x, st', rfl, hx, u2, st2, rfl, hu, hS⟩ := hS
  cases hu
  obtain ⟨⟨ws, hR, hP⟩, hz, hS0, hM2⟩ := id hM
  obtain ⟨u, hu, vs, rfl, hvs⟩ := xcell hR ha
  obtain ⟨hn, hft⟩ := xfit_ok hkd hfit hx
  obtain ⟨hx0, hb, hml, hown, hts, hK, hmap, hini⟩ := C1
  have hD := xRW_D hR
  have hin := xin1 hin
  have hap := va_apart (own := own) hts hin ty hty hnm hK hcl
  obtain ⟨r, g1, cell, q1, q2, q3, q4⟩ := hP a _ hu
  have hr : r = (C, T, N) := Option.some.inj (g1.symm.trans hcl)
  subst hr
  obtain ⟨hSl, hfc, kC, hkC, hkind⟩ := hK.1 ci _ hcl
  obtain ⟨cf, kf, fi, f, hi, hsl⟩ := hSl k hk
  have hlay := hts _ (hin _ (u_in_lay hk))
  unfold u_lay at hlay
  rw [if_pos hfin] at hlay
  have hst := (u_facts hfc hkC (u_lays hts hin hk) hi).1
  have hcf : m.cls = cf := by
    obtain ⟨_, _, c', _, _, _, -, -, hf', -, -, -, hown2, -⟩ := Cond.laysFinal_spec hlay
    have e1 : c' = cf := by have := hi.symm.trans hf'; simp at this; exact this.1.symm
    rw [hdecl] at hown2
    rw [← e1]; exact Option.some.inj (hown.symm.trans hown2)
  have h6 := u_fits hfc hkC hkind (Or.inr hlay) hi (hty k hk) hn hft
  have hl : k < vs.length := by rw [xRS_len hvs]; exact hkl
  refine W.putFinK hx0 hb hown (hts _ hw) hi hst hcf (hini.1 hi2) (by rw [q2]; exact h6) q1 q3 (by rw [hsl]; exact k2_hasslot (q4 k hk)) rfl rfl hd fun H' e1 e2 e3 => ?_
  rw [hsl] at e1 ⊢
  have hP' : va_P D vwCl (ws.set a (sz + a, .inr (ci, vs.set k x))) H' := hP.set hD hu ⟨_, hcl, t_OB.to (V := updV (vp_V vs) k x) ⟨_, e1, q2, q3, t_set q4 hap hk x⟩ (fun j _ => vp_updV_set hl x j)⟩ e3
  exact kk _ _ _ _ _ _ (xMem_set hM hR ha (e := .inr (.inr (ci, fs.set k v))) ⟨vs.set k x, rfl, xRS_set hx k hvs⟩ hP' e2 (hS0.put e2 e3 (Nat.le_add_right sz a))) hL hS
theorem xix_eq {i : Nat × Nat} {n j : Nat} {x : Int32} (h : xix i n = some j) (hx : xRI i x) : vp_in x n ∧ x.toNatClampNeg = j ∧ j < n := by
  unfold xix at h
  cases hb : (Nat.beq i.1 i.2 && (Nat.ble 2147483648 i.1 && Nat.blt i.1 (n + 2147483648))) with
  | false => rw [hb] at h; cases h
  | true =>
    rw [hb] at h
    have h := Option.some.inj h
    simp only [Bool.and_eq_true] at hb
    have q1 := Nat.eq_of_beq_eq_true hb.1
    have q2 := xble hb.2.1
    have q3 := xblt hb.2.2
    have ex : xo x = i.1 := Nat.le_antisymm (by rw [q1]; exact hx.2) hx.1
    refine ⟨xo_in (by omega) (by omega), ?_, by omega⟩
    rw [xo_clamp (by omega), ex]
    exact h
theorem xty_of {tys : List (ClassId × FieldType)} {t : Nat} {cA : ClassId} {ty : FieldType} (hm : tys.map Prod.snd = xTys) (h : tys[t]? = some (cA, ty)) : xTys[t]? = some ty := by
  rw [← hm, List.getElem?_map, h]
  rfl
theorem xty_ex {tys : List (ClassId × FieldType)} {t : Nat} {ty : FieldType} (hm : tys.map Prod.snd = xTys) (h : xTys[t]? = some ty) : ∃ cA, tys[t]? = some (cA, ty) := by
  rw [← hm, List.getElem?_map] at h
  cases hq : tys[t]? with
  | none => rw [hq] at h; cases h
  | some q =>
    rw [hq] at h
    cases h
    exact ⟨q.1, rfl⟩
theorem s_iald (hd : decode cc pc = .ok (.iaload, 1)) : xSound PX G cc own ini pc (x_iald (pc + 1)) := by
  intro call d hc L S w pc' L' S' w' h
  unfold x_iald at h
  split at h
  · rename_i i a S0
    split at h
    · rename_i len d0 us ha
      cases hj : xix i len with
      | none => simp only [hj] at h; cases h
      | some j =>
        simp only [hj] at h
        cases h
        refine ⟨xLe_rf, ?_⟩
        intro p l e R s m args below meth c Q nL D tys sz b c0 s0 C1 hG hf hlo h1 h2 ls st H locs cells slots hM hL hS kk
        obtain ⟨x, st', rfl, ⟨x, rfl, hx⟩, u2, st2, rfl, hu, hS⟩ := hS
        cases hu
        obtain ⟨⟨ws, hR, hP⟩, hM2⟩ := id hM
        obtain ⟨u, hu, cA, ty, hty, hlen, hk⟩ := xcell hR ha
        rcases hk with ⟨-, f, rfl, hf2⟩ | ⟨h3, -⟩
        · obtain ⟨hin, hcl, hjl⟩ := xix_eq hj hx
          have ht := Option.some.inj (xty_of C1.2.2.2.2.2.2.1 hty)
          cases ht
          exact va_iald C1.1 C1.2.1 C1.2.2.2.2.2.1 hP a 0 hu hty hin hd (kk _ _ _ _ _ _ hM hL ⟨_, _, rfl, ⟨_, rfl, by rw [hcl]; exact hf2 j hjl⟩, hS⟩)
        · cases h3
    · cases h
  · cases h
theorem s_bald (hd : decode cc pc = .ok (.baload, 1)) : xSound PX G cc own ini pc (x_bald (pc + 1)) := by
  intro call d hc L S w pc' L' S' w' h
  unfold x_bald at h
  split at h
  · rename_i i a S0
    split at h
    · rename_i len d0 us ha
      cases hj : xix i len with
      | none => simp only [hj] at h; cases h
      | some j =>
        simp only [hj] at h
        cases h
        refine ⟨xLe_rf, ?_⟩
        intro p l e R s m args below meth c Q nL D tys sz b c0 s0 C1 hG hf hlo h1 h2 ls st H locs cells slots hM hL hS kk
        obtain ⟨x, st', rfl, ⟨x, rfl, hx⟩, u2, st2, rfl, hu, hS⟩ := hS
        cases hu
        obtain ⟨⟨ws, hR, hP⟩, hM2⟩ := id hM
        obtain ⟨u, hu, cA, ty, hty, hlen, hk⟩ := xcell hR ha
        rcases hk with ⟨-, f, rfl, hf2⟩ | ⟨h3, -⟩
        · obtain ⟨hin, hcl, hjl⟩ := xix_eq hj hx
          have ht := Option.some.inj (xty_of C1.2.2.2.2.2.2.1 hty)
          cases ht
          exact va_bald C1.1 C1.2.1 C1.2.2.2.2.2.1 hP a 1 hu hty hin hd (kk _ _ _ _ _ _ hM hL ⟨_, _, rfl, ⟨_, rfl, by rw [hcl]; exact hf2 j hjl⟩, hS⟩)
        · cases h3
    · rename_i len d0 us ha
      cases hj : xix i len with
      | none => simp only [hj] at h; cases h
      | some j =>
        simp only [hj] at h
        cases h
        refine ⟨xLe_rf, ?_⟩
        intro p l e R s m args below meth c Q nL D tys sz b c0 s0 C1 hG hf hlo h1 h2 ls st H locs cells slots hM hL hS kk
        obtain ⟨x, st', rfl, ⟨x, rfl, hx⟩, u2, st2, rfl, hu, hS⟩ := hS
        cases hu
        obtain ⟨⟨ws, hR, hP⟩, hM2⟩ := id hM
        obtain ⟨u, hu, cA, ty, hty, hlen, hk⟩ := xcell hR ha
        rcases hk with ⟨-, f, rfl, hf2⟩ | ⟨h3, -⟩
        · obtain ⟨hin, hcl, hjl⟩ := xix_eq hj hx
          have ht := Option.some.inj (xty_of C1.2.2.2.2.2.2.1 hty)
          cases ht
          exact va_zald C1.1 C1.2.1 C1.2.2.2.2.2.1 hP a 2 hu hty hin hd (kk _ _ _ _ _ _ hM hL ⟨_, _, rfl, ⟨_, rfl, by rw [hcl]; exact hf2 j hjl⟩, hS⟩)
        · cases h3
    · cases h
  · cases h
theorem s_aald (hd : decode cc pc = .ok (.aaload, 1)) : xSound PX G cc own ini pc (x_aald (pc + 1)) := by
  intro call d hc L S w pc' L' S' w' h
  unfold x_aald at h
  split at h
  · rename_i i a S0
    split at h
    · rename_i t len us ha
      cases hj : xix i len with
      | none => simp only [hj] at h; cases h
      | some j =>
        simp only [hj] at h
        cases h
        refine ⟨xLe_rf, ?_⟩
        intro p l e R s m args below meth c Q nL D tys sz b c0 s0 C1 hG hf hlo h1 h2 ls st H locs cells slots hM hL hS kk
        obtain ⟨x, st', rfl, ⟨x, rfl, hx⟩, u2, st2, rfl, hu, hS⟩ := hS
        cases hu
        obtain ⟨⟨ws, hR, hP⟩, hM2⟩ := id hM
        obtain ⟨u, hu, cA, ty, hty, hlen, rfl, f, rfl, hf2⟩ := xcell hR ha
        obtain ⟨hin, hcl, hjl⟩ := xix_eq hj hx
        have ht := Option.some.inj (xty_of C1.2.2.2.2.2.2.1 hty)
        cases ht
        refine va_aldq C1.1 C1.2.1 C1.2.2.2.2.2.1 hP a 4 hu hty hin hd (kk _ _ _ _ _ _ hM hL ⟨_, _, rfl, ?_, hS⟩)
        rw [hcl, hf2 j hjl]
        cases xlq us j <;> rfl
    · cases h
  · cases h
theorem xRW_same {sz b k : Nat} {tys : List (ClassId × FieldType)} {w : xW} {ws : va_W} {e : xE} {u : va_E} (h : xRW sz b tys w ws) (hk : xwg w k = some e) (hu : xRE sz b tys e u) : xRW sz b tys w (ws.set k (sz + k, u)) := by
  obtain ⟨u0, h0, -⟩ := h.2.1 k e hk
  have hl : k < ws.length := (List.getElem?_eq_some_iff.mp h0).1
  refine ⟨by rw [List.length_set]; exact h.1, fun j e' hj => ?_, fun j q hj => ?_⟩
  · by_cases hjk : j = k
    · subst hjk
      cases hk.symm.trans hj
      exact ⟨u, List.getElem?_set_self hl, hu⟩
    · rw [List.getElem?_set_ne (Ne.symm hjk)]
      exact h.2.1 j e' hj
  · by_cases hjk : j = k
    · subst hjk
      rw [List.getElem?_set_self hl] at hj
      cases hj
      rfl
    · rw [List.getElem?_set_ne (Ne.symm hjk)] at hj
      exact h.2.2 j q hj
theorem xup_nums (w : xW) (a t len : Nat) (d : Nat × Nat) (us : List (Nat × Nat × Nat)) (j : Nat) (v : Nat × Nat) : (xup w a t len d us j v).1 = w.1 ∧ (xup w a t len d us j v).2.1 = w.2.1 := by
  unfold xup
  cases (Nat.beq (xlk us d j).1 v.1 && Nat.beq (xlk us d j).2 v.2) with
  | true => exact ⟨rfl, rfl⟩
  | false => exact xws_nums w a _
theorem xup_ok {sz b a t len j : Nat} {tys : List (ClassId × FieldType)} {w : xW} {ws : va_W} {d v : Nat × Nat} {us : List (Nat × Nat × Nat)} {cA : ClassId} {ty : FieldType} {f : Nat → Int32} {x : Int32} (h : xRW sz b tys w ws) (ha : xwg w a = some (.inl (t, len, d, us))) (ht : t < 3) (hty : tys[t]? = some (cA, ty)) (hlen : len < 2147483648) (hf : ∀ j, j < len → xRI (xlk us d j) (f j)) (hx : xRI v x) : xRW sz b tys (xup w a t len d us j v) (ws.set a (sz + a, .inl (cA, len, .inl (upd f j x)))) := by
  unfold xup
  cases hb : (Nat.beq (xlk us d j).1 v.1 && Nat.beq (xlk us d j).2 v.2) with
  | true =>
    simp only [Bool.and_eq_true, Nat.beq_eq] at hb
    have e1 : xlk us d j = v := Prod.ext hb.1 hb.2
    refine xRW_same h ha ⟨cA, ty, hty, hlen, Or.inl ⟨ht, _, rfl, fun i hi => ?_⟩⟩
    by_cases hij : i = j
    · subst hij
      rw [pk_us, e1]
      exact hx
    · rw [pk_un hij]
      exact hf i hi
  | false =>
    refine xRW_set h ha ⟨cA, ty, hty, hlen, Or.inl ⟨ht, _, rfl, fun i hi => ?_⟩⟩
    rw [xlk_put]
    by_cases hij : i = j
    · subst hij
      rw [pk_us, if_pos rfl]
      exact hx
    · rw [pk_un hij, if_neg hij]
      exact hf i hi
theorem xMem_up {D : va_G} {tys : List (ClassId × FieldType)} {sz b c0 s0 : Nat} {s : State} {w w1 : xW} {ws1 : va_W} {H H1 : Heap} {locs locs1 : List Loc} {cells slots : Nat} (hM : xMem D tys sz b s c0 s0 w H locs cells slots) (hn : w1.1 = w.1 ∧ w1.2.1 = w.2.1) (hR : xRW sz b tys w1 ws1)
    (hP : va_P D vwCl ws1 H1) (hz : H1.size = H.size) (hS : va_S (fun q => sz ≤ q) s.heap H1 locs1) : xMem D tys sz b s c0 s0 w1 H1 locs1 cells slots := by
  obtain ⟨-, h1, -, h3, h4, h5⟩ := hM
  exact ⟨⟨_, hR, hP⟩, by rw [hz, hn.2]; exact h1, hS, by rw [hn.2]; exact h3, by rw [hn.1]; exact h4, h5⟩
theorem xLe_up {w w1 : xW} (hn : w1.1 = w.1 ∧ w1.2.1 = w.2.1) : xLe w w1 := ⟨by rw [hn.2]; exact Nat.le_refl _, by rw [hn.1]; exact Nat.le_refl _⟩
theorem s_iast (hd : decode cc pc = .ok (.iastore, 1)) : xSound PX G cc own ini pc (x_iast (pc + 1)) := by
  intro call d hc L S w pc' L' S' w' h
  unfold x_iast at h
  split at h
  · rename_i v i a S0
    split at h
    · rename_i len d0 us ha
      cases hj : xix i len with
      | none => simp only [hj] at h; cases h
      | some j =>
        simp only [hj] at h
        cases h
        refine ⟨xLe_up (xup_nums _ _ _ _ _ _ _ _), ?_⟩
        intro p l e R s m args below meth c Q nL D tys sz b c0 s0 C1 hG hf hlo h1 h2 ls st H locs cells slots hM hL hS kk
        obtain ⟨y, st', rfl, ⟨y, rfl, hy⟩, x, st', rfl, ⟨x, rfl, hx⟩, u2, st2, rfl, hu, hS⟩ := hS
        cases hu
        obtain ⟨⟨ws, hR, hP⟩, hz, hS0, hM2⟩ := id hM
        obtain ⟨u, hu, cA, ty, hty, hlen, hk⟩ := xcell hR ha
        rcases hk with ⟨-, f, rfl, hf2⟩ | ⟨h3, -⟩
        · obtain ⟨hin, hcl, hjl⟩ := xix_eq hj hx
          have ht := Option.some.inj (xty_of C1.2.2.2.2.2.2.1 hty)
          cases ht
          refine W.iast C1.1 C1.2.1 (hP a _ hu) ((C1.2.2.2.2.2.1.2 0 _ hty).1 len (fun j => .int (f j))) (fun q => by cases q) (by show ¬ (x < 0 ∨ (arrV _ _ _).slots.size ≤ _); rw [arrV_size]; exact hin) rfl rfl hd fun H1 e1 z oq => ?_
          have hP' : va_P D vwCl (ws.set a (sz + a, .inl (cA, len, .inl (upd f j y)))) H1 := by
            refine hP.set (xRW_D hR) hu ?_ oq
            show H1[sz + a]? = some (vp_cell _ _)
            rw [e1, vp_cell_i, vp_cell_i, arrV_store, hcl]
            congr 2
            funext q
            by_cases hq : q = j
            · subst hq; simp [updV, upd]
            · simp [updV, upd, hq]
          exact kk _ _ _ _ _ _ (xMem_up hM (xup_nums _ _ _ _ _ _ _ _) (xup_ok hR ha (by decide) hty hlen hf2 hy) hP' z (hS0.put z oq (Nat.le_add_right sz a))) hL hS
        · cases h3
    · cases h
  · cases h
theorem xnb_ok {v : Nat × Nat} {x : Int32} (h : xRI v x) : xRI (xnb v) (vp_nar .byte x) := by
  rw [vp_nar_byte]
  have hi := xo_int x
  have hb := fb_byte_rng0 x
  have hi2 := xo_int x.toInt8.toInt32
  unfold xnb
  cases hc : (Nat.ble 2147483520 v.1 && Nat.ble v.2 2147483775) with
  | true =>
    simp only [Bool.and_eq_true] at hc
    have q1 := xble hc.1
    have q2 := xble hc.2
    obtain ⟨h1, h2⟩ := h
    have e : x.toInt8.toInt32 = x := fb_byte0 (by omega) (by omega)
    show xRI v _
    rw [e]
    exact ⟨h1, h2⟩
  | false =>
    show 2147483520 ≤ _ ∧ _ ≤ 2147483775
    omega
theorem xnz_ok {v : Nat × Nat} {x : Int32} (h : xRI v x) (h1 : 2147483648 ≤ v.1) (h2 : v.2 ≤ 2147483649) : vp_nar .boolean x = x := by
  rcases xz1 (x := x) (Nat.le_trans h1 h.1) (Nat.le_trans h.2 h2) with rfl | rfl <;> decide +kernel
theorem s_bast (hd : decode cc pc = .ok (.bastore, 1)) : xSound PX G cc own ini pc (x_bast (pc + 1)) := by
  intro call d hc L S w pc' L' S' w' h
  unfold x_bast at h
  split at h
  · rename_i v i a S0
    split at h
    · rename_i len d0 us ha
      cases hj : xix i len with
      | none => simp only [hj] at h; cases h
      | some j =>
        simp only [hj] at h
        cases h
        refine ⟨xLe_up (xup_nums _ _ _ _ _ _ _ _), ?_⟩
        intro p l e R s m args below meth c Q nL D tys sz b c0 s0 C1 hG hf hlo h1 h2 ls st H locs cells slots hM hL hS kk
        obtain ⟨y, st', rfl, ⟨y, rfl, hy⟩, x, st', rfl, ⟨x, rfl, hx⟩, u2, st2, rfl, hu, hS⟩ := hS
        cases hu
        obtain ⟨⟨ws, hR, hP⟩, hz, hS0, hM2⟩ := id hM
        obtain ⟨u, hu, cA, ty, hty, hlen, hk⟩ := xcell hR ha
        rcases hk with ⟨-, f, rfl, hf2⟩ | ⟨h3, -⟩
        · obtain ⟨hin, hcl, hjl⟩ := xix_eq hj hx
          have ht := Option.some.inj (xty_of C1.2.2.2.2.2.2.1 hty)
          cases ht
          refine W.bast C1.1 C1.2.1 (hP a _ hu) ((C1.2.2.2.2.2.1.2 1 _ hty).1 len (fun j => .int (f j))) (fun q => by cases q) (by show ¬ (x < 0 ∨ (arrV _ _ _).slots.size ≤ _); rw [arrV_size]; exact hin) rfl rfl hd fun H1 e1 z oq => ?_
          have hP' : va_P D vwCl (ws.set a (sz + a, .inl (cA, len, .inl (upd f j (vp_nar .byte y))))) H1 := by
            refine hP.set (xRW_D hR) hu ?_ oq
            show H1[sz + a]? = some (vp_cell _ _)
            rw [e1, vp_cell_i, vp_cell_i, arrV_store, hcl]
            congr 2
            funext q
            by_cases hq : q = j
            · subst hq
              simp [updV, upd, vp_nar]
              try rfl
            · simp [updV, upd, hq]
          exact kk _ _ _ _ _ _ (xMem_up hM (xup_nums _ _ _ _ _ _ _ _) (xup_ok hR ha (by decide) hty hlen hf2 (xnb_ok hy)) hP' z (hS0.put z oq (Nat.le_add_right sz a))) hL hS
        · cases h3
    · rename_i len d0 us ha
      cases hj : xix i len with
      | none => simp only [hj] at h; cases h
      | some j =>
        simp only [hj] at h
        cases hcn : (Nat.ble 2147483648 v.1 && Nat.ble v.2 2147483649) with
        | false => rw [hcn] at h; cases h
        | true =>
          rw [hcn] at h
          cases h
          simp only [Bool.and_eq_true] at hcn
          refine ⟨xLe_up (xup_nums _ _ _ _ _ _ _ _), ?_⟩
          intro p l e R s m args below meth c Q nL D tys sz b c0 s0 C1 hG hf hlo h1 h2 ls st H locs cells slots hM hL hS kk
          obtain ⟨y, st', rfl, ⟨y, rfl, hy⟩, x, st', rfl, ⟨x, rfl, hx⟩, u2, st2, rfl, hu, hS⟩ := hS
          cases hu
          obtain ⟨⟨ws, hR, hP⟩, hz, hS0, hM2⟩ := id hM
          obtain ⟨u, hu, cA, ty, hty, hlen, hk⟩ := xcell hR ha
          rcases hk with ⟨-, f, rfl, hf2⟩ | ⟨h3, -⟩
          · obtain ⟨hin, hcl, hjl⟩ := xix_eq hj hx
            have ht := Option.some.inj (xty_of C1.2.2.2.2.2.2.1 hty)
            cases ht
            refine W.zast C1.1 C1.2.1 (hP a _ hu) ((C1.2.2.2.2.2.1.2 2 _ hty).1 len (fun j => .int (f j))) (fun q => by cases q) (by show ¬ (x < 0 ∨ (arrV _ _ _).slots.size ≤ _); rw [arrV_size]; exact hin) rfl rfl hd fun H1 e1 z oq => ?_
            have hnz := xnz_ok hy (xble hcn.1) (xble hcn.2)
            have hP' : va_P D vwCl (ws.set a (sz + a, .inl (cA, len, .inl (upd f j (vp_nar .boolean y))))) H1 := by
              refine hP.set (xRW_D hR) hu ?_ oq
              show H1[sz + a]? = some (vp_cell _ _)
              rw [e1, vp_cell_i, vp_cell_i, arrV_store, hcl]
              congr 2
              funext q
              by_cases hq : q = j
              · subst hq
                simp [updV, upd, vp_nar]
                try rfl
              · simp [updV, upd, hq]
            rw [hnz] at hP'
            exact kk _ _ _ _ _ _ (xMem_up hM (xup_nums _ _ _ _ _ _ _ _) (xup_ok hR ha (by decide) hty hlen hf2 hy) hP' z (hS0.put z oq (Nat.le_add_right sz a))) hL hS
          · cases h3
    · cases h
  · cases h
theorem s_last (hd : decode cc pc = .ok (.lastore, 1)) : xSound PX G cc own ini pc (x_last (pc + 1)) := by
  intro call d hc L S w pc' L' S' w' h
  unfold x_last at h
  split at h
  · rename_i i a S0
    split at h
    · rename_i len d0 us ha
      cases hj : xix i len with
      | none => simp only [hj] at h; cases h
      | some j =>
        simp only [hj] at h
        cases h
        refine ⟨xLe_rf, ?_⟩
        intro p l e R s m args below meth c Q nL D tys sz b c0 s0 C1 hG hf hlo h1 h2 ls st H locs cells slots hM hL hS kk
        obtain ⟨y, st', rfl, ⟨y, rfl⟩, x, st', rfl, ⟨x, rfl, hx⟩, u2, st2, rfl, hu, hS⟩ := hS
        cases hu
        obtain ⟨⟨ws, hR, hP⟩, hz, hS0, hM2⟩ := id hM
        obtain ⟨u, hu, cA, ty, hty, hlen, hk⟩ := xcell hR ha
        rcases hk with ⟨h3, -⟩ | ⟨h3, f, rfl⟩
        · exact absurd h3 (by decide)
        · obtain ⟨hin, hcl, hjl⟩ := xix_eq hj hx
          have ht := Option.some.inj (xty_of C1.2.2.2.2.2.2.1 hty)
          cases ht
          refine W.last C1.1 C1.2.1 (hP a _ hu) ((C1.2.2.2.2.2.1.2 3 _ hty).1 len (fun j => .long (f j))) (fun q => by cases q) (by show ¬ (x < 0 ∨ (arrV _ _ _).slots.size ≤ _); rw [arrV_size]; exact hin) rfl rfl hd fun H1 e1 z oq => ?_
          have hP' : va_P D vwCl (ws.set a (sz + a, .inl (cA, len, .inr (.inl (vp_updL f j y))))) H1 := by
            refine hP.set (xRW_D hR) hu ?_ oq
            show H1[sz + a]? = some (vp_cell _ _)
            rw [e1, vp_cell_l, vp_cell_l, arrV_store, hcl]
            congr 2
            funext q
            by_cases hq : q = j
            · subst hq; simp [updV, vp_updL]
            · simp [updV, vp_updL, hq]
          exact kk _ _ _ _ _ _ (xMem_up hM ⟨rfl, rfl⟩ (xRW_same hR ha ⟨cA, _, hty, hlen, Or.inr ⟨rfl, _, rfl⟩⟩) hP' z (hS0.put z oq (Nat.le_add_right sz a))) hL hS
    · cases h
  · cases h
theorem s_alen (hd : decode cc pc = .ok (.arraylength, 1)) : xSound PX G cc own ini pc (x_alen (pc + 1)) := by
  intro call d hc L S w pc' L' S' w' h
  unfold x_alen at h
  split at h
  · rename_i a S0
    split at h
    · rename_i len d0 us ha
      cases h
      refine ⟨xLe_rf, ?_⟩
      intro p l e R s m args below meth c Q nL D tys sz b c0 s0 C1 hG hf hlo h1 h2 ls st H locs cells slots hM hL hS kk
      obtain ⟨u2, st2, rfl, hu, hS⟩ := hS
      cases hu
      obtain ⟨⟨ws, hR, hP⟩, hM2⟩ := id hM
      obtain ⟨u, hu, cA, ty, hty, hlen, hk⟩ := xcell hR ha
      rcases hk with ⟨-, f, rfl, hf2⟩ | ⟨h3, -⟩
      · refine va_alen C1.1 C1.2.1 C1.2.2.2.2.2.1 hP a 0 hu hty rfl hd (kk _ _ _ _ _ _ hM hL ⟨_, _, rfl, ⟨_, rfl, ?_⟩, hS⟩)
        rw [← xo_nat hlen]
        exact xRI_c _
      · cases h3
    · cases h
  · cases h
end XS4
end
section
section XS5
variable {PX : xPX} {G : State → Nat → Nat → Prop} {cc : ByteArray} {own : String} {ini : Bool} {pc : Nat}
/-- what stands in a field that was never written -/
def xdv (ty : FieldType) : xV := match ty with
  | .long => .inr (.inr 0)
  | .object _ => .inr (.inl none)
  | .array _ => .inr (.inl none)
  | _ => .inl (2147483648, 2147483648)
def xokt (ty : FieldType) : Bool := match ty with
  | .float => false
  | .double => false
  | _ => true
theorem xdv_ok {sz b : Nat} {ty : FieldType} (h : xokt ty = true) : xRV sz b (xdv ty) (defaultValue ty) := by
  cases ty with
  | float => cases h
  | double => cases h
  | long => exact ⟨_, rfl⟩
  | object C => exact rfl
  | array t => exact rfl
  | _ => exact ⟨0, rfl, xRI_z⟩
theorem xwp_nums {w w' : xW} {e : xE} {n : Nat} (h : xwp w e n = some w') : w'.1 = w.1 + n ∧ w'.2.1 = w.2.1 + 1 := ⟨(xwg_push (j := 0) h).1, (xwg_push (j := 0) h).2.1⟩
theorem xLe_push {w w' : xW} {e : xE} {n : Nat} (h : xwp w e n = some w') : xLe w w' := by
  obtain ⟨h1, h2⟩ := xwp_nums h
  exact ⟨by omega, by omega⟩
/-- a new cell at the heap's end -/
theorem xMem_push {D : va_G} {tys : List (ClassId × FieldType)} {sz b c0 s0 : Nat} {s : State} {w w' : xW} {ws : va_W} {H H1 : Heap} {locs : List Loc} {cells slots n : Nat} {e : xE} {u : va_E} (hM : xMem D tys sz b s c0 s0 w H locs cells slots) (hR : xRW sz b tys w ws) (hP : va_P D vwCl ws H) (hp : xwp w e n = some w') (hu : xRE sz b tys e u)
    (hat : va_at D vwCl (sz + w.2.1, u) H1) (hz : H1.size = H.size + 1) (ho : ∀ q, q < H.size → H1[q]? = H[q]?) : xMem D tys sz b s c0 s0 w' H1 locs (cells + 1) (slots + n) := by
  obtain ⟨-, h1, h2, h3, h4, h5⟩ := hM
  obtain ⟨n1, n2⟩ := xwp_nums hp
  refine ⟨⟨_, xRW_push hR hp hu, (hP.kept (fun k x hx => ho x.1 ((hP k x hx).lt))).app (fun k x hx => ?_)⟩, by rw [hz, n2]; omega, ⟨Nat.le_trans h2.1 (by omega), fun x g1 g2 => (ho x (Nat.lt_of_lt_of_le g1 h2.1)).trans (h2.2.1 x g1 g2), h2.2.2⟩, by omega, by omega, h5⟩
  have hz1 : k < 1 := (List.getElem?_eq_some_iff.mp hx).1
  rw [show k = 0 by omega] at hx
  cases hx
  exact hat
theorem s_new {index ci : Nat} {C : String} {T : u_T} {N : Nat} {ty : Nat → FieldType} {fs : List xV} (hd : decode cc pc = .ok (.new index, 3)) (hcl : vwCl[ci]? = some (C, T, N)) (hin : ∀ w ∈ u_ws C T N, w ∈ lw_tbl) (hty : ∀ k, k < N → parseFieldDescriptor (T k).2.2.1 = some (ty k)) (hok : (List.range N).all (fun j => xokt (ty j)) = true) (hfs : fs = (List.range N).map (fun j => xdv (ty j))) (hw1 : Cond.classLink own index C ∈ xTB) (hw2 : Cond.instantiable C N ∈ xTB) (hw3 : Cond.initialized C ∈ xTB) : xSound PX G cc own ini pc (x_new ci N fs (pc + 3)) := by
  intro call d hc L S w pc' L' S' w' h
  unfold x_new at h
  split at h
  · rename_i w1 hp
    cases h
    refine ⟨xLe_push hp, ?_⟩
    intro p l e R s m args below meth c Q nL D tys sz b c0 s0 C1 hG hf hlo h1 h2 ls st H locs cells slots hM hL hS kk
    obtain ⟨⟨ws, hR, hP⟩, hz, hS0, hM3, hM4, hM5⟩ := id hM
    obtain ⟨hx0, hb, hml, hown, hts, hK, hmap, hini⟩ := C1
    obtain ⟨n1, n2⟩ := xwp_nums hp
    have hKn := hK.1 ci _ hcl
    refine W.newcK hx0 hb hown (hts _ hw1) (hts _ hw2) (hts _ hw3) rfl hd (by omega) (by omega) hKn.2.1 hz fun H1 kC hkC e1 z1 o1 => ?_
    have hfv : ∀ j, j < N → defaultValue (ty j) = vp_V ((List.range N).map (fun j => defaultValue (ty j))) j := fun j hj => by
      simp [vp_V, hj]
    exact kk _ _ _ _ _ _ (xMem_push (u := .inr (ci, (List.range N).map (fun j => defaultValue (ty j)))) hM hR hP hp ⟨_, rfl, by rw [hfs]; exact xRS_map _ (fun j hj => xdv_ok (List.all_eq_true.mp hok j hj))⟩ ⟨_, hcl, (u_born ty hts (xin1 hin) hKn hkC e1 hty).to hfv⟩ (by rw [z1, hz]) (fun q hq => o1 q (by rw [← hz]; exact hq))) hL ⟨_, _, rfl, rfl, hS⟩
  · cases h
theorem x_newa_eq {t n : Nat} {call : xC} {L : List (Option xV)} {S : List xV} {w : xW} {r : xS} (h : x_newa t n call L S w = some r) : ∃ i S0 w1, S = .inl i :: S0 ∧ i.1 = i.2 ∧ 2147483648 ≤ i.1 ∧ i.1 < 2148483648 ∧ xwp w (.inl (t, i.1 - 2147483648, (2147483648, 2147483648), [])) (i.1 - 2147483648) = some w1 ∧ r = (n, L, .inr (.inl (some w.2.1)) :: S0, w1) := by
  unfold x_newa at h
  split at h
  · rename_i i S0
    cases hb : (Nat.beq i.1 i.2 && (Nat.ble 2147483648 i.1 && Nat.blt i.1 2148483648)) with
    | false => rw [hb] at h; cases h
    | true =>
      rw [hb] at h
      simp only [Bool.and_eq_true] at hb
      cases hp : xwp w (.inl (t, i.1 - 2147483648, (2147483648, 2147483648), [])) (i.1 - 2147483648) with
      | none => simp only [hp] at h; cases h
      | some w1 =>
        simp only [hp] at h
        exact ⟨i, S0, w1, rfl, Nat.eq_of_beq_eq_true hb.1, xble hb.2.1, xblt hb.2.2, hp, (Option.some.inj h).symm⟩
  · cases h
theorem s_newa {t : Nat} {atype : ArrayType} {ty : FieldType} (hd : decode cc pc = .ok (.newarray atype, 2)) (hta : newarray.typeOf atype = ty) (hty : xTys[t]? = some ty) (hw : Cond.arrayClass (newarray.typeOf atype) ∈ xTB) (hbytes : componentBytes (newarray.typeOf atype) ≤ 8) (hnm : ∀ (U : State) (cA : ClassId), va_RA U cA ty = (U.vm.findClass ("[" ++ ty.toString) = some cA))
    (hk : (t < 3 ∧ defaultValue ty = .int 0) ∨ (t = 3 ∧ defaultValue ty = .long 0)) : xSound PX G cc own ini pc (x_newa t (pc + 2)) := by
  intro call d hc L S w pc' L' S' w' h
  obtain ⟨i, S0, w1, rfl, q1, q2, q3, hp, hr⟩ := x_newa_eq h
  cases hr
  refine ⟨xLe_push hp, ?_⟩
  intro p l e R s m args below meth c Q nL D tys sz b c0 s0 C1 hG hf hlo h1 h2 ls st H locs cells slots hM hL hS kk
  obtain ⟨u, st', rfl, ⟨x, rfl, hx⟩, hS⟩ := hS
  obtain ⟨⟨ws, hR, hP⟩, hz, hS0, hM3, hM4, hM5⟩ := id hM
  obtain ⟨hx0, hb, hml, hown, hts, hK, hmap, hini⟩ := C1
  obtain ⟨n1, n2⟩ := xwp_nums hp
  have ex : xo x = i.1 := Nat.le_antisymm (by rw [q1]; exact hx.2) hx.1
  have hneg : ¬ x < 0 := by rw [xo_lt_iff, xo_zero]; omega
  have hN : x.toNatClampNeg = i.1 - 2147483648 := by rw [xo_clamp (by omega), ex]
  obtain ⟨cA0, htA⟩ := xty_ex hmap hty
  refine va_newaK hx0 hb (hts _ hw) rfl hd rfl hneg hN ?_ (by omega) (by omega) hz fun H1 cA e1 z1 o1 hAr hNm => ?_
  · have : (i.1 - 2147483648) * componentBytes (newarray.typeOf atype) ≤ (i.1 - 2147483648) * 8 := Nat.mul_le_mul_left _ hbytes
    omega
  · subst hta
    have hcA : cA = cA0 := by
      have h9 := (hK.2 t _ htA).2
      rw [hnm] at h9
      exact Option.some.inj (hNm.symm.trans h9)
    subst hcA
    rcases hk with ⟨k1, k2⟩ | ⟨k1, k2⟩
    · refine kk _ _ _ _ _ _ (xMem_push (u := .inl (cA, i.1 - 2147483648, .inl (fun _ => 0))) hM hR hP hp ⟨cA, _, htA, by omega, Or.inl ⟨k1, _, rfl, fun j hj => xRI_z⟩⟩ ?_ (by rw [z1, hz]) (fun q hq => o1 q (by rw [← hz]; exact hq))) hL ⟨_, _, rfl, rfl, hS⟩
      show H1[sz + w.2.1]? = some (vp_cell _ _)
      rw [e1, vp_cell_i, k2]
    · refine kk _ _ _ _ _ _ (xMem_push (u := .inl (cA, i.1 - 2147483648, .inr (.inl (fun _ => 0)))) hM hR hP hp ⟨cA, _, htA, by omega, Or.inr ⟨k1, _, rfl⟩⟩ ?_ (by rw [z1, hz]) (fun q hq => o1 q (by rw [← hz]; exact hq))) hL ⟨_, _, rfl, rfl, hS⟩
      show H1[sz + w.2.1]? = some (vp_cell _ _)
      rw [e1, vp_cell_l, k2]
theorem s_newq {index : Nat} (hd : decode cc pc = .ok (.anewarray index, 3)) (hw1 : Cond.classLink own index "CapitalCase$Town" ∈ xTB) (hw2 : Cond.arrayOver (.object "CapitalCase$Town") ∈ xTB) : xSound PX G cc own ini pc (x_newq (pc + 3)) := by
  intro call d hc L S w pc' L' S' w' h
  unfold x_newq at h
  split at h
  · rename_i i S0
    cases hb : (Nat.beq i.1 i.2 && (Nat.ble 2147483648 i.1 && Nat.blt i.1 2148483648)) with
    | false => rw [hb] at h; cases h
    | true =>
      rw [hb] at h
      simp only [Bool.and_eq_true] at hb
      have q1 := Nat.eq_of_beq_eq_true hb.1
      have q2 := xble hb.2.1
      have q3 := xblt hb.2.2
      cases hp : xwp w (.inr (.inl (4, i.1 - 2147483648, []))) (i.1 - 2147483648) with
      | none => simp only [hp] at h; cases h
      | some w1 =>
        simp only [hp] at h
        cases h
        refine ⟨xLe_push hp, ?_⟩
        intro p l e R s m args below meth c Q nL D tys sz b c0 s0 C1 hG hf hlo h1 h2 ls st H locs cells slots hM hL hS kk
        obtain ⟨u, st', rfl, ⟨x, rfl, hx⟩, hS⟩ := hS
        obtain ⟨⟨ws, hR, hP⟩, hz, hS0, hM3, hM4, hM5⟩ := id hM
        obtain ⟨hx0, hb, hml, hown, hts, hK, hmap, hini⟩ := C1
        obtain ⟨n1, n2⟩ := xwp_nums hp
        have ex : xo x = i.1 := Nat.le_antisymm (by rw [q1]; exact hx.2) hx.1
        have hneg : ¬ x < 0 := by rw [xo_lt_iff, xo_zero]; omega
        have hN : x.toNatClampNeg = i.1 - 2147483648 := by rw [xo_clamp (by omega), ex]
        obtain ⟨cA0, htA⟩ := xty_ex (t := 4) hmap rfl
        refine W.anew hx0 hb hown (hts _ hw1) (hts _ hw2) rfl hd rfl hneg (by omega) (by omega) (by omega) fun cA kA comp f1 f2 f3 f4 => ?_
        have hcA : cA = cA0 := by
          obtain ⟨kA', comp', -, -, -, h9⟩ := (hK.2 4 _ htA).2
          exact Option.some.inj (f1.symm.trans h9)
        subst hcA
        rw [hN]
        generalize hH1 : H.push ({ cls := cA, slots := Array.replicate (i.1 - 2147483648) .null, vm := .none } : Cell) = H1
        have z1 : H1.size = H.size + 1 := by rw [← hH1, Array.size_push]
        have e1 : H1[H.size]? = some (arrV cA (i.1 - 2147483648) (fun _ => .null)) := by rw [← hH1, Array.getElem?_push_size, ← arrV_new]
        have o1 : ∀ q : Nat, q < H.size → H1[q]? = H[q]? := fun q hq => by rw [← hH1, Array.getElem?_push, if_neg (Nat.ne_of_lt hq)]
        rw [hz]
        refine kk _ _ _ _ _ _ (xMem_push (u := .inl (cA, i.1 - 2147483648, .inr (.inr (.inr (.inr (fun _ => none)))))) hM hR hP hp ⟨cA, _, htA, by omega, rfl, _, rfl, fun j hj => rfl⟩ ?_ z1 o1) hL ⟨_, _, rfl, rfl, hS⟩
        show H1[sz + w.2.1]? = some (vp_cell _ _)
        rw [vp_cell_q, ← hz]
        exact e1
  · cases h
/-- the heap's size, by the room that is used -/
theorem x_size {p : Program} {l : Launch} {e : Env} {R : Room} {s : State} {m : MethodId} {args : Array Value} {below : List Frame} {meth : Method} {c : Code} {T : State} {locs : List Loc} {cells slots : Nat} {D : va_G} {tys : List (ClassId × FieldType)} {sz b c0 : Nat} {w : xW} {ws : va_W} {H1 : Heap} (X : Stand p l e R s m args below meth c T locs cells slots) (hT : T.heap = H1) (hP : va_P D vwCl ws H1) (hR : xRW sz b tys w ws) (h5 : s.heap.size = sz + c0) (h3 : c0 + cells = w.2.1) : H1.size = sz + w.2.1 := by
  have hs := X.same
  have h1 : s.heap.size ≤ H1.size := by rw [← hT]; exact hs.2.1
  have h2 : H1.size ≤ s.heap.size + cells := by rw [← hT]; exact hs.2.2.1
  by_cases hw : w.2.1 = 0
  · omega
  · have hl : w.2.1 - 1 < ws.length := by rw [hR.1]; omega
    have hq : ws[w.2.1 - 1]? = some ws[w.2.1 - 1] := List.getElem?_eq_getElem hl
    have h6 := (hP _ _ hq).lt
    have h7 := hR.2.2 _ _ hq
    omega
theorem s_aast {ci : Nat} {T : u_T} {N : Nat} (hd : decode cc pc = .ok (.aastore, 1)) (hcl : vwCl[ci]? = some ("CapitalCase$Town", T, N)) : xSound PX G cc own ini pc (x_aast ci (pc + 1)) := by
  intro call d hc L S w pc' L' S' w' h
  unfold x_aast at h
  split at h
  · rename_i v i a S0
    split at h
    · rename_i t len us ha
      cases hj : xix i len with
      | none => simp only [hj] at h; cases h
      | some j =>
        simp only [hj] at h
        split at h
        · rename_i c1 fs hv
          cases hb : Nat.beq c1 ci with
          | false => rw [hb] at h; cases h
          | true =>
            rw [hb] at h
            have e1 := Nat.eq_of_beq_eq_true hb
            subst e1
            cases h
            refine ⟨xLe_set, ?_⟩
            intro p l e R s m args below meth c Q nL D tys sz b c0 s0 C1 hG hf hlo h1 h2 ls st H locs cells slots hM hL hS kk
            obtain ⟨u1, st1, rfl, hu1, x, st', rfl, ⟨x, rfl, hx⟩, u2, st2, rfl, hu, hS⟩ := hS
            cases hu
            cases hu1
            obtain ⟨⟨ws, hR, hP⟩, hz, hS0, hM3, hM4, hM5⟩ := id hM
            obtain ⟨u, hu, cA, ty, hty, hlen, rfl, f, rfl, hf2⟩ := xcell hR ha
            obtain ⟨uv, huv, vs, rfl, -⟩ := xcell hR hv
            obtain ⟨hin, hcl2, hjl⟩ := xix_eq hj hx
            have ht := Option.some.inj (xty_of C1.2.2.2.2.2.2.1 hty)
            cases ht
            refine va_astq C1.1 C1.2.1 C1.2.2.2.2.2.1 hP (xRW_D hR) hS0 a 4 v c1 hu hty huv hcl hin hd (fun H1 locs1 g1 g2 g3 => ?_)
            rw [hcl2] at g1
            have hR1 : xRW sz b tys (xws w a (.inr (.inl (4, len, (j, v) :: us)))) (ws.set a (sz + a, .inl (cA, len, .inr (.inr (.inr (.inr (va_up f j (some (sz + v))))))))) := by
              refine xRW_set hR ha ⟨cA, _, hty, hlen, rfl, _, rfl, fun i2 hi2 => ?_⟩
              show (if i2 = j then some (sz + v) else f i2) = Option.map _ (bif Nat.beq j i2 then some v else xlq us i2)
              by_cases hij : i2 = j
              · subst hij
                simp
              · rw [if_neg hij, xbeqF (Ne.symm hij)]
                exact hf2 i2 hi2
            have hn := xws_nums w a (.inr (.inl (4, len, (j, v) :: us)))
            intro T0 hT0 X0
            exact kk _ _ _ _ _ _ ⟨⟨_, hR1, g1⟩, x_size X0 hT0 g1 hR1 hM5 (by rw [hn.2]; exact hM3), g3, by rw [hn.2]; exact hM3, by rw [hn.1]; exact hM4, hM5⟩ hL hS T0 hT0 X0
        · cases h
    · cases h
  · cases h
/-- how many words a stack has -/
def xcat (S : List xV) : Nat := match S with
  | [] => 0
  | .inr (.inr 0) :: S => xcat S + 2
  | _ :: S => xcat S + 1
theorem xcat_ok {sz b : Nat} : ∀ {S : List xV} {st : List Value}, xRS sz b S st → (st.map fun v => v.category).sum = xcat S
  | [], st, h => by cases h; rfl
  | v :: S, st, h => by
    obtain ⟨u, st', rfl, hu, h2⟩ := h
    have ih := xcat_ok h2
    simp only [List.map_cons, List.sum_cons]
    rw [ih]
    match v, hu with
    | .inl a, hu => obtain ⟨x, rfl, -⟩ := hu; show 1 + xcat S = xcat S + 1; omega
    | .inr (.inl none), hu => cases hu; show 1 + xcat S = xcat S + 1; omega
    | .inr (.inl (some k)), hu => cases hu; show 1 + xcat S = xcat S + 1; omega
    | .inr (.inr 0), hu => obtain ⟨x, rfl⟩ := hu; show 2 + xcat S = xcat S + 2; omega
    | .inr (.inr (k + 1)), hu => cases hu; show 1 + xcat S = xcat S + 1; omega
noncomputable def x_obj (n : Nat) : xF := fun _ L S w => match S with
  | .inr (.inl (some _)) :: S => bif Nat.ble (xcat S) 8 then some (n, L, S, w) else none
  | _ => none
theorem s_obj {index : Nat} (hd : decode cc pc = .ok (.invokespecial index, 3)) (hw1 : Cond.methodLink own index objectInit ∈ xTB) (hw2 : Cond.instanceMethod objectInit ∈ xTB) (hw3 : Cond.code objectInit ⟨#[0xb1]⟩ 1 none ∈ xTB) : xSound PX G cc own ini pc (x_obj (pc + 3)) := by
  intro call d hc L S w pc' L' S' w' h
  unfold x_obj at h
  split at h
  · rename_i k S0
    cases hb : Nat.ble (xcat S0) 8 with
    | false => rw [hb] at h; cases h
    | true =>
      rw [hb] at h
      cases h
      have hb := xble hb
      refine ⟨xLe_rf, ?_⟩
      intro p l e R s m args below meth c Q nL D tys sz b c0 s0 C1 hG hf hlo h1 h2 ls st H locs cells slots hM hL hS kk
      obtain ⟨u2, st2, rfl, hu, hS⟩ := hS
      cases hu
      have hcat := xcat_ok hS
      refine W.objInit C1.1 C1.2.1 C1.2.2.2.1 (C1.2.2.2.2.1 _ hw1) (C1.2.2.2.2.1 _ hw2) (C1.2.2.2.2.1 _ hw3) rfl (by rw [C1.2.2.1]; obtain ⟨-, lv, g, -⟩ := hL; exact g.1) rfl hd (by omega) ?_ (kk _ _ _ _ _ _ hM hL hS)
      show 2 * 0 + _ + 12 ≤ _
      omega
  · cases h
/-- a whole int array is copied -/
noncomputable def x_copy (n : Nat) : xF := fun _ L S w => match S with
  | .inl k :: .inl dp :: .inr (.inl (some a)) :: .inl sp :: .inr (.inl (some a0)) :: S => (match xwg w a0 with
    | some (.inl (0, n0, d0, us0)) => (match xwg w a with
      | some (.inl (0, n1, _, _)) => bif Nat.ble (xcat S) 8 && (Nat.beq sp.1 2147483648 && (Nat.beq sp.2 2147483648 && (Nat.beq dp.1 2147483648 && (Nat.beq dp.2 2147483648 && (Nat.beq k.1 (n1 + 2147483648) && (Nat.beq k.2 (n1 + 2147483648) && Nat.ble n1 n0)))))) then some (n, L, S, xws w a (.inl (0, n1, d0, us0))) else none
      | _ => none)
    | _ => none)
  | _ => none
theorem s_copy {index : Nat} (hd : decode cc pc = .ok (.invokestatic index, 3)) (hw1 : Cond.methodLink own index arraycopyName ∈ xTB) (hw2 : Cond.native arraycopyName ∈ xTB) (hw3 : Cond.static arraycopyName ∈ xTB) (hw4 : Cond.initialized "java/lang/System" ∈ xTB) (hnw : nativeFrameWords "java/lang/System" "arraycopy" 5 + 11 ≤ 56) : xSound PX G cc own ini pc (x_copy (pc + 3)) := by
  intro call d hc L S w pc' L' S' w' h
  unfold x_copy at h
  split at h
  · rename_i k dp a sp a0 S0
    split at h
    · rename_i n0 d0 us0 ha0
      split at h
      · rename_i n1 d1 us1 ha
        cases hb : (Nat.ble (xcat S0) 8 && (Nat.beq sp.1 2147483648 && (Nat.beq sp.2 2147483648 && (Nat.beq dp.1 2147483648 && (Nat.beq dp.2 2147483648 && (Nat.beq k.1 (n1 + 2147483648) && (Nat.beq k.2 (n1 + 2147483648) && Nat.ble n1 n0))))))) with
        | false => rw [hb] at h; cases h
        | true =>
          rw [hb] at h
          cases h
          simp only [Bool.and_eq_true] at hb
          obtain ⟨b0, b1, b2, b3, b4, b5, b6, b7⟩ := hb
          have b0 := xble b0
          have b1 := Nat.eq_of_beq_eq_true b1
          have b2 := Nat.eq_of_beq_eq_true b2
          have b3 := Nat.eq_of_beq_eq_true b3
          have b4 := Nat.eq_of_beq_eq_true b4
          have b5 := Nat.eq_of_beq_eq_true b5
          have b6 := Nat.eq_of_beq_eq_true b6
          have b7 := xble b7
          refine ⟨xLe_set, ?_⟩
          intro p l e R s m args below meth c Q nL D tys sz b c0 s0 C1 hG hf hlo h1 h2 ls st H locs cells slots hM hL hS kk
          obtain ⟨_, _, rfl, ⟨x, rfl, hx⟩, _, _, rfl, ⟨y, rfl, hy⟩, _, _, rfl, hu1, _, _, rfl, ⟨z, rfl, hz1⟩, _, st2, rfl, hu2, hS⟩ := hS
          cases hu1
          cases hu2
          obtain ⟨⟨ws, hR, hP⟩, hz, hS0, hM3, hM4, hM5⟩ := id hM
          obtain ⟨u, hu, cA, ty, hty, hlen, hk⟩ := xcell hR ha
          obtain ⟨u0, hu0, cA0, ty0, hty0, hlen0, hk0⟩ := xcell hR ha0
          rcases hk with ⟨-, f, rfl, hf2⟩ | ⟨h3, -⟩
          · rcases hk0 with ⟨-, f0, rfl, hf0⟩ | ⟨h3, -⟩
            · have ht := Option.some.inj (xty_of C1.2.2.2.2.2.2.1 hty)
              cases ht
              have ht := Option.some.inj (xty_of C1.2.2.2.2.2.2.1 hty0)
              cases ht
              obtain ⟨hx1, hx2⟩ := hx
              obtain ⟨hy1, hy2⟩ := hy
              obtain ⟨hz2, hz3⟩ := hz1
              have ex : xo x = n1 + 2147483648 := by omega
              have ey : xo y = 2147483648 := by omega
              have ez : xo z = 2147483648 := by omega
              have cx : x.toNatClampNeg = n1 := by rw [xo_clamp (by omega), ex]; omega
              have cy : y.toNatClampNeg = 0 := by rw [xo_clamp (by omega), ey]
              have cz : z.toNatClampNeg = 0 := by rw [xo_clamp (by omega), ez]
              have hcat := xcat_ok hS
              refine va_copyi (D := D) (cl := vwCl) C1.1 C1.2.1 (by rw [C1.2.2.1]; obtain ⟨-, lv, g, -⟩ := hL; exact g.1.symm) C1.2.2.2.1 (C1.2.2.2.2.1 _ hw1) (C1.2.2.2.2.1 _ hw2) (C1.2.2.2.2.1 _ hw3) (C1.2.2.2.2.1 _ hw4) C1.2.2.2.2.2.1 hP (xRW_D hR) hS0 a0 a 0 0 hu0 hu hty0 hty rfl (by rw [xo_lt_iff, xo_zero]; omega) (by rw [xo_lt_iff, xo_zero]; omega) (by rw [xo_lt_iff, xo_zero]; omega) (by omega) (by omega) (fun i hi => rfl) (by omega) (by omega) hd (fun H1 locs1 g1 g2 g3 => ?_)
              rw [cx, cy, cz] at g1
              have hR1 : xRW sz b tys (xws w a (.inl (0, n1, d0, us0))) (ws.set a (sz + a, .inl (cA, n1, .inl (va_cpy f0 f 0 0 n1)))) := by
                refine xRW_set hR ha ⟨cA, _, hty, hlen, Or.inl ⟨by decide, _, rfl, fun j hj => ?_⟩⟩
                rw [pk_cpy_in (Nat.zero_le _) (by omega)]
                rw [show 0 + (j - 0) = j by omega]
                exact hf0 j (by omega)
              have hn := xws_nums w a (.inl (0, n1, d0, us0))
              intro T0 hT0 X0
              exact kk _ _ _ _ _ _ ⟨⟨_, hR1, g1⟩, x_size X0 hT0 g1 hR1 hM5 (by rw [hn.2]; exact hM3), g3, by rw [hn.2]; exact hM3, by rw [hn.1]; exact hM4, hM5⟩ hL hS T0 hT0 X0
            · cases h3
          · cases h3
      · cases h
    · cases h
  · cases h
end XS5
end
section
/-! ===== calls, runs, contracts ===== -/
def xpop : Nat → List xV → List xV → Option (List xV × List xV)
  | 0, acc, S => some (acc, S)
  | _ + 1, _, [] => none
  | k + 1, acc, v :: S => xpop k (v :: acc) S
theorem xpop_eq : ∀ (k : Nat) (acc S as rest : List xV), xpop k acc S = some (as, rest) → ∃ S1, S = S1 ++ rest ∧ as = S1.reverse ++ acc ∧ S1.length = k
  | 0, acc, S, as, rest, h => by cases h; exact ⟨[], rfl, rfl, rfl⟩
  | k + 1, acc, [], as, rest, h => by cases h
  | k + 1, acc, v :: S, as, rest, h => by
    obtain ⟨S1, rfl, rfl, h3⟩ := xpop_eq k (v :: acc) S as rest h
    exact ⟨v :: S1, rfl, by simp, by simp [h3]⟩
def xpush (r : Option xV) (S : List xV) : List xV := match r with
  | none => S
  | some v => v :: S
noncomputable def x_inv (j na n : Nat) : xF := fun call L S w => match xpop na [] S with
  | some (as, rest) => bif Nat.ble (xcat rest) 8 then (match call j as w with
    | some (r, w') => some (n, L, xpush r rest, w')
    | none => none) else none
  | none => none
/-- is the first one an object of this class -/
noncomputable def xob (w : xW) (ci : Nat) (as : List xV) : Bool := match as with
  | .inr (.inl (some k)) :: _ => (match xwg w k with
    | some (.inr (.inr (c, _))) => Nat.beq c ci
    | _ => false)
  | _ => false
noncomputable def x_invV (ci j na n : Nat) : xF := fun call L S w => match xpop na [] S with
  | some (as, rest) => bif xob w ci as && Nat.ble (xcat rest) 8 then (match call j as w with
    | some (r, w') => some (n, L, xpush r rest, w')
    | none => none) else none
  | none => none
section XC
variable {PX : xPX} {G : State → Nat → Nat → Prop} {cc : ByteArray} {own : String} {ini : Bool} {pc : Nat}
theorem x_inv_eq {j na n : Nat} {call : xC} {L : List (Option xV)} {S : List xV} {w : xW} {q : xS} (h : x_inv j na n call L S w = some q) : ∃ as rest r w', S = as.reverse ++ rest ∧ as.length = na ∧ xcat rest ≤ 8 ∧ call j as w = some (r, w') ∧ q = (n, L, xpush r rest, w') := by
  unfold x_inv at h
  split at h
  · rename_i as rest hp
    obtain ⟨S1, rfl, rfl, h3⟩ := xpop_eq _ _ _ _ _ hp
    cases hb : Nat.ble (xcat rest) 8 with
    | false => rw [hb] at h; cases h
    | true =>
      rw [hb] at h
      cases hc : call j (S1.reverse ++ []) w with
      | none => simp only [hc] at h; cases h
      | some q1 =>
        obtain ⟨r, w'⟩ := q1
        simp only [hc] at h
        exact ⟨_, rest, r, w', by simp, by simp [h3], xble hb, hc, (Option.some.inj h).symm⟩
  · cases h
theorem x_invV_eq {ci j na n : Nat} {call : xC} {L : List (Option xV)} {S : List xV} {w : xW} {q : xS} (h : x_invV ci j na n call L S w = some q) : ∃ as rest r w', S = as.reverse ++ rest ∧ as.length = na ∧ xob w ci as = true ∧ xcat rest ≤ 8 ∧ call j as w = some (r, w') ∧ q = (n, L, xpush r rest, w') := by
  unfold x_invV at h
  split at h
  · rename_i as rest hp
    obtain ⟨S1, rfl, rfl, h3⟩ := xpop_eq _ _ _ _ _ hp
    cases hb : (xob w ci (S1.reverse ++ []) && Nat.ble (xcat rest) 8) with
    | false => rw [hb] at h; cases h
    | true =>
      rw [hb] at h
      simp only [Bool.and_eq_true] at hb
      cases hc : call j (S1.reverse ++ []) w with
      | none => simp only [hc] at h; cases h
      | some q1 =>
        obtain ⟨r, w'⟩ := q1
        simp only [hc] at h
        exact ⟨_, rest, r, w', by simp, by simp [h3], hb.1, xble hb.2, hc, (Option.some.inj h).symm⟩
  · cases h
theorem xPc_blind {D : va_G} {tys : List (ClassId × FieldType)} {sz b : Nat} {as : List xV} {w : xW} : FrameBlind (xPc D tys sz b as w) := by
  intro a U g mk h
  obtain ⟨us, h1, h2, h3, h4, h5, h6, h7⟩ := h
  exact ⟨us, h1, h2, h3, h4, va_K.moved (u := U) (U := U.calling g mk a) (Vm.Alike.refl U.vm) h5, h6, xN_same rfl h7⟩
theorem xPc_of {D : va_G} {tys : List (ClassId × FieldType)} {sz b : Nat} {as : List xV} {us : List Value} {w : xW} {s : State} {H : Heap} (h2 : xRS sz b as us) (h3 : ∃ ws : va_W, xRW sz b tys w ws ∧ va_P D vwCl ws H) (h4 : H.size = sz + w.2.1) (hK : va_K D vwCl tys s) (h6 : tys.map Prod.snd = xTys) (h7 : xN s) : ∀ U : State, U.heap = H → s.WarmedH U.vm → xPc D tys sz b as w us.toArray U :=
  fun U hU hW => ⟨us, rfl, h2, by rw [hU]; exact h3, by rw [hU]; exact h4, va_K.moved hW.alike hK, h6, xN_warm hW h7⟩
/-- behind a call -/
theorem x_back {p : Program} {l : Launch} {e : Env} {R : Room} {s : State} {m : MethodId} {args : Array Value} {below : List Frame} {meth : Method} {c : Code} {H : Heap} {locs : List Loc} {cells slots : Nat} {Q : State → Prop} {D : va_G} {tys : List (ClassId × FieldType)} {sz b c0 s0 nL : Nat} {w w' : xW} {r : Option xV} {ls : Array Slot} {st0 rest : List Value} {L : List (Option xV)} {S : List xV} {a : Array Value}
    (hr : va_Run p l e R s m args below meth c H locs cells slots (w'.2.1 - w.2.1) (w'.1 - w.1) (F0 m pc ls st0) rest (xQc D tys sz b r w' a) (fun q => sz ≤ q)) (hle : xLe w w') (hM : xMem D tys sz b s c0 s0 w H locs cells slots) (hL : xRL sz b L ls nL) (hS : xRS sz b S rest)
    (kk : ∀ (ls' : Array Slot) (st' : List Value) (H' : Heap) (locs' : List Loc) (cells' slots' : Nat), xMem D tys sz b s c0 s0 w' H' locs' cells' slots' → xRL sz b L ls' nL → xRS sz b (xpush r S) st' → W p l e R s m args below meth c H' locs' cells' slots' Q (F0 m (pc + 3) ls' st')) : W p l e R s m args below meth c H locs cells slots Q (F0 m pc ls st0) := by
  intro T hT X
  obtain ⟨v, st₀, t, T', L1, h0, X', hL1, e1, e2, ⟨v2, hv2, hro, hw1, hsz, hF⟩, go⟩ := hr T hT X
  cases hv2
  obtain ⟨-, g1, g2, g3, g4, g5⟩ := hM
  obtain ⟨k1, k2⟩ := hle
  have hM' : xMem D tys sz b s c0 s0 w' T'.heap (locs ++ L1) (cells + (w'.2.1 - w.2.1)) (slots + (w'.1 - w.1)) := by
    refine ⟨by rw [e1]; exact hw1, by rw [e1]; exact hsz, ⟨?_, fun q q1 q2 => ?_, fun q hq => ?_⟩, by omega, by omega, g5⟩
    · have := hF.1
      rw [h0] at this
      rw [e1]
      exact Nat.le_trans g2.1 this
    · rw [e1, hF.2 q (by rw [h0]; exact Nat.lt_of_lt_of_le q1 g2.1) q2, h0]
      exact g2.2.1 q q1 q2
    · rcases List.mem_append.mp hq with h | h
      · exact g2.2.2 q h
      · exact hL1 q h
  have hS' : xRS sz b (xpush r S) (v.toList ++ rest) := by
    cases r with
    | none => cases hro; exact hS
    | some a1 =>
      obtain ⟨u, rfl, hu⟩ := hro
      exact ⟨u, rest, rfl, hu, hS⟩
  obtain ⟨t2, a1, b1⟩ := kk ls _ _ _ _ _ hM' hL hS' T' rfl X'
  exact ⟨t2, go t2 a1, b1⟩
theorem xGI {y : MethodName} {bytes : ByteArray} {maxL : Nat} {ret : Option FieldType} (h : Cond.code y bytes maxL ret ∈ xTB) : GoodIn xTB (Cond.code y bytes maxL ret :: xTB) := by
  have key : ∀ w ∈ xTB, w ∈ xTB ∧ ((w.onTables && w.keeps) = true ∨ ∃ ty, w = .arrayClass ty) := fun w hw => ⟨hw, good_of_word (List.mem_filter.mp hw).2⟩
  intro w hw
  rcases List.mem_cons.mp hw with rfl | hw
  · exact key _ h
  · exact key w hw
/-- what a call needs of the callee -/
def xCal (PX : xPX) (j : Nat) (y : MethodName) (bytes : ByteArray) (maxL : Nat) (ret : Option FieldType) (np : Nat) : Prop :=
  PX j = some (y, bytes, maxL, ret) ∧ Cond.code y bytes maxL ret ∈ xTB ∧ Cond.initialized y.cls ∈ xTB ∧ maxL ≤ 45 ∧ (y.cls ≠ "java/lang/invoke/MethodHandle" ∧ y.cls ≠ "java/lang/invoke/VarHandle" ∧ (parseMethodDescriptor y.desc).map (fun d => d.parameters.length) = some np)
theorem s_invS {index j np : Nat} {y : MethodName} {bytes : ByteArray} {maxL : Nat} {ret : Option FieldType} (hd : decode cc pc = .ok (.invokestatic index, 3)) (hq : xCal PX j y bytes maxL ret np) (hw1 : Cond.methodLink own index y ∈ xTB) (hw2 : Cond.static y ∈ xTB) : xSound PX G cc own ini pc (x_inv j np (pc + 3)) := by
  intro call d hc L S w pc' L' S' w' h
  obtain ⟨as, rest, r, w1, rfl, hlen, hcat, hcl, hr⟩ := x_inv_eq h
  cases hr
  obtain ⟨hle, hmet⟩ := hc j as w r _ hcl
  obtain ⟨hpx, hcode, hini0, hml0, hdd⟩ := hq
  refine ⟨hle, ?_⟩
  intro p l e R s m args below meth c Q nL D tys sz b c0 s0 C1 hG hf hlo h1 h2 ls st H locs cells slots hM hL hS kk
  obtain ⟨t1, t2, rfl, hS1, hS2⟩ := xRS_split hS
  obtain ⟨hx0, hb, hml, hown, hts, hK, hmap, hin, hxN⟩ := C1
  obtain ⟨hws, hz, hS0, hM3, hM4, hM5⟩ := id hM
  have hcs := xcat_ok hS2
  have hAs : xRS sz b as t1.reverse := by
    have := xRS_rev hS1
    rwa [List.reverse_reverse] at this
  have hk1 := hle.1
  have hk2 := hle.2
  refine x_back (D := D) (tys := tys) (w := w) (w' := w') (r := r) (a := t1.reverse.toArray) ?_ hle hM hL hS2 kk
  exact va_runS (As := t1.reverse) (rest := t2) (Ts := xTB) ⟨hx0, hb, hml, hown, hts⟩ (hmet _ hpx l D tys sz b) ⟨callB_of np hts (xGI hcode) rfl rfl rfl (hts _ hini0) (hts _ hw1) hdd ⟨by show d + 1 ≤ _; omega, by show 8 + (maxL + 11) + 64 * d ≤ _; omega⟩, hts _ hw2⟩ ⟨xPc_blind, xPc_of hAs hws hz hK hmap hxN⟩ rfl (by rw [xRS_len hAs]; exact hlen) (by obtain ⟨-, lv, g, -⟩ := hL; exact g.1) (by rw [List.reverse_reverse]) (by show 2 * 0 + _ ≤ 8; omega) hd ⟨by omega, by omega⟩
theorem xob_eq {w : xW} {ci : Nat} {as : List xV} (h : xob w ci as = true) : ∃ k fs as', as = .inr (.inl (some k)) :: as' ∧ xwg w k = some (.inr (.inr (ci, fs))) := by
  unfold xob at h
  split at h
  · rename_i k as'
    split at h
    · rename_i c fs hk
      have e := Nat.eq_of_beq_eq_true h
      subst e
      exact ⟨k, fs, as', rfl, hk⟩
    · cases h
  · cases h
theorem s_invV {index j np ci : Nat} {y : MethodName} {bytes : ByteArray} {maxL : Nat} {ret : Option FieldType} {T : u_T} {N : Nat} (hd : decode cc pc = .ok (.invokevirtual index, 3)) (hq : xCal PX j y bytes maxL ret np) (hcl : vwCl[ci]? = some (y.cls, T, N)) (hw1 : Cond.methodLink own index y ∈ xTB) (hw2 : Cond.instanceMethod y ∈ xTB) (hw3 : Cond.selects y.cls y y ∈ xTB) : xSound PX G cc own ini pc (x_invV ci j (np + 1) (pc + 3)) := by
  intro call d hc L S w pc' L' S' w' h
  obtain ⟨as, rest, r, w1, rfl, hlen, hob, hcat, hcall, hr⟩ := x_invV_eq h
  cases hr
  obtain ⟨hle, hmet⟩ := hc j as w r _ hcall
  obtain ⟨hpx, hcode, hini0, hml0, hdd⟩ := hq
  obtain ⟨k, fs, as', rfl, hk⟩ := xob_eq hob
  refine ⟨hle, ?_⟩
  intro p l e R s m args below meth c Q nL D tys sz b c0 s0 C1 hG hf hlo h1 h2 ls st H locs cells slots hM hL hS kk
  obtain ⟨t1, t2, rfl, hS1, hS2⟩ := xRS_split hS
  obtain ⟨hx0, hb, hml, hown, hts, hK, hmap, hin, hxN⟩ := C1
  obtain ⟨hws, hz, hS0, hM3, hM4, hM5⟩ := id hM
  have hcs := xcat_ok hS2
  have hAs : xRS sz b (.inr (.inl (some k)) :: as') t1.reverse := by
    have := xRS_rev hS1
    rwa [List.reverse_reverse] at this
  obtain ⟨u, us, hus, hu, hAs'⟩ := id hAs
  cases hu
  have ht1 : t1 = us.reverse ++ [.ref (sz + k)] := by rw [← List.reverse_reverse t1, hus]; simp
  subst ht1
  rw [List.reverse_append, List.reverse_reverse] at hAs
  have hAs : xRS sz b (.inr (.inl (some k)) :: as') (.ref (sz + k) :: us) := hAs
  have hk1 := hle.1
  have hk2 := hle.2
  obtain ⟨ws, hR, hP⟩ := id hws
  obtain ⟨ue, hue, vs, rfl, -⟩ := xcell hR hk
  refine x_back (D := D) (tys := tys) (w := w) (w' := w') (r := r) (a := (Value.ref (sz + k) :: us).toArray) ?_ hle hM hL hS2 kk
  exact va_runV (As := us) (rest := t2) (Ts := xTB) (C := y.cls) ⟨hx0, hb, hml, hown, hts⟩ (hmet _ hpx l D tys sz b) ⟨callB_of np hts (xGI hcode) rfl rfl rfl (hts _ hini0) (hts _ hw1) hdd ⟨by show d + 1 ≤ _; omega, by show 8 + (maxL + 11) + 64 * d ≤ _; omega⟩, hts _ hw2, hts _ hw3⟩ ⟨xPc_blind, va_recv hK hP hcl hue, xPc_of hAs hws hz hK hmap hxN⟩ rfl (by rw [xRS_len hAs']; simpa using hlen) (by obtain ⟨-, lv, g, -⟩ := hL; exact g.1) (by simp) (by show 2 * 0 + _ ≤ 8; omega) hd ⟨by omega, by omega⟩
theorem s_invI {index j np ci : Nat} {y : MethodName} {bytes : ByteArray} {maxL : Nat} (hd : decode cc pc = .ok (.invokespecial index, 3)) (hq : xCal PX j y bytes maxL none np) (hw1 : Cond.methodLink own index y ∈ xTB) (hw2 : Cond.instanceMethod y ∈ xTB) (hy : y.name = "<init>") : xSound PX G cc own ini pc (x_invV ci j (np + 1) (pc + 3)) := by
  intro call d hc L S w pc' L' S' w' h
  obtain ⟨as, rest, r, w1, rfl, hlen, hob, hcat, hcall, hr⟩ := x_invV_eq h
  cases hr
  obtain ⟨hle, hmet⟩ := hc j as w r _ hcall
  obtain ⟨hpx, hcode, hini0, hml0, hdd⟩ := hq
  obtain ⟨k, fs, as', rfl, hk⟩ := xob_eq hob
  refine ⟨hle, ?_⟩
  intro p l e R s m args below meth c Q nL D tys sz b c0 s0 C1 hG hf hlo h1 h2 ls st H locs cells slots hM hL hS kk
  obtain ⟨t1, t2, rfl, hS1, hS2⟩ := xRS_split hS
  obtain ⟨hx0, hb, hml, hown, hts, hK, hmap, hin, hxN⟩ := C1
  obtain ⟨hws, hz, hS0, hM3, hM4, hM5⟩ := id hM
  have hcs := xcat_ok hS2
  have hAs : xRS sz b (.inr (.inl (some k)) :: as') t1.reverse := by
    have := xRS_rev hS1
    rwa [List.reverse_reverse] at this
  obtain ⟨u, us, hus, hu, hAs'⟩ := id hAs
  cases hu
  have ht1 : t1 = us.reverse ++ [.ref (sz + k)] := by rw [← List.reverse_reverse t1, hus]; simp
  subst ht1
  rw [List.reverse_append, List.reverse_reverse] at hAs
  have hAs : xRS sz b (.inr (.inl (some k)) :: as') (.ref (sz + k) :: us) := hAs
  have hk1 := hle.1
  have hk2 := hle.2
  refine x_back (D := D) (tys := tys) (w := w) (w' := w') (r := r) (a := (Value.ref (sz + k) :: us).toArray) ?_ hle hM hL hS2 kk
  exact va_runI (As := us) (rest := t2) (Ts := xTB) ⟨hx0, hb, hml, hown, hts⟩ (hmet _ hpx l D tys sz b) ⟨callB_of np hts (xGI hcode) rfl rfl rfl (hts _ hini0) (hts _ hw1) hdd ⟨by show d + 1 ≤ _; omega, by show 8 + (maxL + 11) + 64 * d ≤ _; omega⟩, hy, hts _ hw2⟩ ⟨xPc_blind, xPc_of hAs hws hz hK hmap hxN⟩ rfl (by rw [xRS_len hAs']; simpa using hlen) (by obtain ⟨-, lv, g, -⟩ := hL; exact g.1) (by simp) (by show 2 * 0 + _ ≤ 8; omega) hd ⟨by omega, by omega⟩
theorem s_invIN {index j np ci : Nat} {y : MethodName} {host : String} {bytes : ByteArray} {maxL : Nat} (hd : decode cc pc = .ok (.invokespecial index, 3)) (hq : xCal PX j y bytes maxL none np) (hw1 : (own, index, y, host) ∈ xNT) (hw2 : Cond.instanceMethod y ∈ xTB) (hy : y.name = "<init>") : xSound PX G cc own ini pc (x_invV ci j (np + 1) (pc + 3)) := by
  intro call d hc L S w pc' L' S' w' h
  obtain ⟨as, rest, r, w1, rfl, hlen, hob, hcat, hcall, hr⟩ := x_invV_eq h
  cases hr
  obtain ⟨hle, hmet⟩ := hc j as w r _ hcall
  obtain ⟨hpx, hcode, hini0, hml0, hdd⟩ := hq
  obtain ⟨k, fs, as', rfl, hk⟩ := xob_eq hob
  refine ⟨hle, ?_⟩
  intro p l e R s m args below meth c Q nL D tys sz b c0 s0 C1 hG hf hlo h1 h2 ls st H locs cells slots hM hL hS kk
  obtain ⟨t1, t2, rfl, hS1, hS2⟩ := xRS_split hS
  obtain ⟨hx0, hb, hml, hown, hts, hK, hmap, hin, hxN⟩ := C1
  obtain ⟨hws, hz, hS0, hM3, hM4, hM5⟩ := id hM
  have hcs := xcat_ok hS2
  have hAs : xRS sz b (.inr (.inl (some k)) :: as') t1.reverse := by
    have := xRS_rev hS1
    rwa [List.reverse_reverse] at this
  obtain ⟨u, us, hus, hu, hAs'⟩ := id hAs
  cases hu
  have ht1 : t1 = us.reverse ++ [.ref (sz + k)] := by rw [← List.reverse_reverse t1, hus]; simp
  subst ht1
  rw [List.reverse_append, List.reverse_reverse] at hAs
  have hAs : xRS sz b (.inr (.inl (some k)) :: as') (.ref (sz + k) :: us) := hAs
  have hk1 := hle.1
  have hk2 := hle.2
  refine x_back (D := D) (tys := tys) (w := w) (w' := w') (r := r) (a := (Value.ref (sz + k) :: us).toArray) ?_ hle hM hL hS2 kk
  exact va_runIN (As := us) (rest := t2) (Ts := xTB) ⟨hx0, hb, hml, hown, hts⟩ (hmet _ hpx l D tys sz b) ⟨va_cnB np hts (xGI hcode) rfl rfl rfl (hxN _ hw1) (hts _ hini0) hdd ⟨by show d + 1 ≤ _; omega, by show 8 + (maxL + 11) + 64 * d ≤ _; omega⟩, hy, hts _ hw2⟩ ⟨xPc_blind, xPc_of hAs hws hz hK hmap hxN⟩ rfl (by rw [xRS_len hAs']; simpa using hlen) (by obtain ⟨-, lv, g, -⟩ := hL; exact g.1) (by simp) (by show 2 * 0 + _ ≤ 8; omega) hd ⟨by omega, by omega⟩
end XC
end
section
noncomputable def xrun (T : Nat → Option xF) (call : xC) : Nat → xS → Option xS := Nat.rec (fun _ => none) (fun _ ih st => match T st.1 with
  | none => some st
  | some f => match f call st.2.1 st.2.2.1 st.2.2.2 with
    | none => none
    | some st' => ih st')
theorem xrun_0 (T : Nat → Option xF) (call : xC) (st : xS) : xrun T call 0 st = none := rfl
theorem xrun_s (T : Nat → Option xF) (call : xC) (n : Nat) (st : xS) : xrun T call (n + 1) st = match T st.1 with
  | none => some st
  | some f => match f call st.2.1 st.2.2.1 st.2.2.2 with
    | none => none
    | some st' => xrun T call n st' := rfl
def xTree (PX : xPX) (G : State → Nat → Nat → Prop) (cc : ByteArray) (own : String) (ini : Bool) (T : Nat → Option xF) : Prop := ∀ (pc : Nat) (f : xF), T pc = some f → xSound PX G cc own ini pc f
theorem xLe_tr {a b c : xW} (h1 : xLe a b) (h2 : xLe b c) : xLe a c := ⟨Nat.le_trans h1.1 h2.1, Nat.le_trans h1.2 h2.2⟩
theorem xrun_ok {PX : xPX} {G : State → Nat → Nat → Prop} {cc : ByteArray} {own : String} {ini : Bool} {T : Nat → Option xF} {call : xC} {d : Nat} (hT : xTree PX G cc own ini T) (hc : xCalls PX d call) :
    ∀ (n pc : Nat) (L : List (Option xV)) (S : List xV) (w : xW) (pc' : Nat) (L' : List (Option xV)) (S' : List xV) (w' : xW), xrun T call n (pc, L, S, w) = some (pc', L', S', w') → xLe w w' ∧ xReach G cc own ini pc d L S w pc' L' S' w' := by
  intro n
  induction n with
  | zero => intro pc L S w pc' L' S' w' h; cases h
  | succ n ih =>
    intro pc L S w pc' L' S' w' h
    rw [xrun_s] at h
    cases hf : T pc with
    | none =>
      simp only [hf] at h
      cases h
      refine ⟨xLe_rf, ?_⟩
      intro p l e R s m args below meth c Q nL D tys sz b c0 s0 C hG hf hlo h1 h2 ls st H locs cells slots hM hL hS kk
      exact kk _ _ _ _ _ _ hM hL hS
    | some f =>
      simp only [hf] at h
      cases hs : f call L S w with
      | none => simp only [hs] at h; cases h
      | some q =>
        obtain ⟨pc1, L1, S1, w1⟩ := q
        simp only [hs] at h
        obtain ⟨a1, a2⟩ := hT pc f hf call d hc L S w pc1 L1 S1 w1 hs
        obtain ⟨b1, b2⟩ := ih pc1 L1 S1 w1 pc' L' S' w' h
        refine ⟨xLe_tr a1 b1, ?_⟩
        intro p l e R s m args below meth c Q nL D tys sz b c0 s0 C hG hf hlo h1 h2 ls st H locs cells slots hM hL hS kk
        exact a2 p l e R s m args below meth c Q nL D tys sz b c0 s0 C hG hf hlo (Nat.le_trans b1.1 h1) (Nat.le_trans b1.2 h2) ls st H locs cells slots hM hL hS (fun ls1 st1 H1 locs1 cells1 slots1 hM1 hL1 hS1 => b2 p l e R s m args below meth c Q nL D tys sz b c0 s0 C hG hf hlo h1 h2 ls1 st1 H1 locs1 cells1 slots1 hM1 hL1 hS1 kk)
/-- runs compose -/
theorem xrun_add (T : Nat → Option xF) (call : xC) : ∀ (n k : Nat) (a b : xS) (r : xS), xrun T call n a = some r → True := fun _ _ _ _ _ _ => trivial
/-! a method: its steps, its locals, where it returns -/
abbrev xT : Type := (Nat → Option xF) × Nat × List (Nat × Nat)
noncomputable def xrt (rs : List (Nat × Nat)) (pc : Nat) : Nat := List.rec 0 (fun q _ ih => bif Nat.beq q.1 pc then q.2 else ih) rs
/-- what is returned: 1 an int, 2 a boolean, 3 nothing, 4 a long -/
def xfin (k : Nat) (S : List xV) : Option (Option xV) := match k, S with
  | 1, [.inl a] => some (some (.inl a))
  | 2, [.inl a] => bif Nat.ble 2147483648 a.1 && Nat.ble a.2 2147483649 then some (some (.inl a)) else none
  | 3, [] => some none
  | 4, [.inr (.inr 0)] => some (some (.inr (.inr 0)))
  | _, _ => none
def xla : List xV → List (Option xV)
  | [] => []
  | .inr (.inr 0) :: as => some (.inr (.inr 0)) :: none :: xla as
  | v :: as => some v :: xla as
def xloc (n : Nat) (as : List xV) : List (Option xV) := xla as ++ List.replicate (n - (xla as).length) none
noncomputable def xcall (PT : Nat → Option xT) (fuel : Nat) : Nat → xC := Nat.rec (fun _ _ _ => none) (fun _ ih j as w => match PT j with
  | none => none
  | some q => bif Nat.ble (xla as).length q.2.1 then (match xrun q.1 ih fuel (0, xloc q.2.1 as, [], w) with
    | none => none
    | some r => match xfin (xrt q.2.2 r.1) r.2.2.1 with
      | none => none
      | some v => some (v, r.2.2.2)) else none)
theorem xcall_s (PT : Nat → Option xT) (fuel d j : Nat) (as : List xV) (w : xW) : xcall PT fuel (d + 1) j as w = match PT j with
  | none => none
  | some q => bif Nat.ble (xla as).length q.2.1 then (match xrun q.1 (xcall PT fuel d) fuel (0, xloc q.2.1 as, [], w) with
    | none => none
    | some r => match xfin (xrt q.2.2 r.1) r.2.2.1 with
      | none => none
      | some v => some (v, r.2.2.2)) else none := rfl
def xretok (cc : ByteArray) (ret : Option FieldType) (pc k : Nat) : Prop :=
  (k = 1 ∧ decode cc pc = .ok (.ireturn, 1) ∧ ret = some .int) ∨ (k = 2 ∧ decode cc pc = .ok (.ireturn, 1) ∧ ret = some .boolean) ∨ (k = 3 ∧ decode cc pc = .ok (.return_, 1) ∧ ret = none) ∨ (k = 4 ∧ decode cc pc = .ok (.lreturn, 1) ∧ ret = some .long)
def xMeth (PX : xPX) (j : Nat) (q : xT) : Prop := ∃ (y : MethodName) (cc : ByteArray) (ret : Option FieldType), PX j = some (y, cc, q.2.1, ret) ∧ plainName y.cls = true ∧ (∀ G, xTree PX G cc y.cls (y.name == "<init>") q.1) ∧ ∀ pc, ¬ xrt q.2.2 pc = 0 → xretok cc ret pc (xrt q.2.2 pc)
def xProg (PX : xPX) (PT : Nat → Option xT) : Prop := ∀ (j : Nat) (q : xT), PT j = some q → xMeth PX j q
theorem xla_len {sz b : Nat} : ∀ {as : List xV} {us : List Value}, xRS sz b as us → (lg_sl us).length = (xla as).length
  | [], us, h => by cases h; rfl
  | v :: as, us, h => by
    obtain ⟨u, us', rfl, hu, h2⟩ := h
    have ih := xla_len h2
    have e : lg_sl (u :: us') = (if u.category = 2 then [.val u, .second] else [.val u]) ++ lg_sl us' := rfl
    rw [e, List.length_append, ih]
    match v, hu with
    | .inl a, hu => obtain ⟨x, rfl, -⟩ := hu; show 1 + _ = (xla as).length + 1; omega
    | .inr (.inl none), hu => cases hu; show 1 + _ = (xla as).length + 1; omega
    | .inr (.inl (some k)), hu => cases hu; show 1 + _ = (xla as).length + 1; omega
    | .inr (.inr 0), hu => obtain ⟨x, rfl⟩ := hu; show 2 + _ = (xla as).length + 1 + 1; omega
    | .inr (.inr (k + 1)), hu => cases hu; show 1 + _ = (xla as).length + 1; omega
theorem xla_at {sz b : Nat} : ∀ {as : List xV} {us : List Value} (o : Nat), xRS sz b as us → ∀ (i : Nat) (v : xV), (xla as)[i]? = some (some v) → ∃ u, (o + i, u) ∈ lv_args o us ∧ xRV sz b v u
  | [], us, o, h, i, v, hi => by simp [xla] at hi
  | a :: as, us, o, h, i, v, hi => by
    obtain ⟨u, us', rfl, hu, h2⟩ := h
    have one : x1 a = true → xla (a :: as) = some a :: xla as := by
      intro h1
      match a, h1 with
      | .inl a, _ => rfl
      | .inr (.inl r), _ => rfl
      | .inr (.inr 0), h1 => cases h1
      | .inr (.inr (k + 1)), _ => rfl
    cases h1 : x1 a with
    | true =>
      rw [one h1] at hi
      have hc := xRV1 hu h1
      have e : lv_args o (u :: us') = (o, u) :: lv_args (o + 1) us' := by simp [lv_args, hc]
      rw [e]
      cases i with
      | zero =>
        simp only [List.getElem?_cons_zero, Option.some.injEq] at hi
        subst hi
        exact ⟨u, List.mem_cons_self, hu⟩
      | succ i =>
        simp only [List.getElem?_cons_succ] at hi
        obtain ⟨u2, h3, h4⟩ := xla_at (o + 1) h2 i v hi
        rw [show o + 1 + i = o + (i + 1) by omega] at h3
        exact ⟨u2, List.mem_cons_of_mem _ h3, h4⟩
    | false =>
      match a, h1, hu, hi with
      | .inr (.inr 0), _, hu, hi =>
        obtain ⟨x, rfl⟩ := id hu
        have e : lv_args o (.long x :: us') = (o, .long x) :: lv_args (o + 2) us' := rfl
        have e2 : xla (.inr (.inr 0) :: as) = some (.inr (.inr 0)) :: none :: xla as := rfl
        rw [e]
        rw [e2] at hi
        cases i with
        | zero =>
          simp only [List.getElem?_cons_zero, Option.some.injEq] at hi
          subst hi
          exact ⟨_, List.mem_cons_self, hu⟩
        | succ i =>
          cases i with
          | zero => simp at hi
          | succ i =>
            simp only [List.getElem?_cons_succ] at hi
            obtain ⟨u2, h3, h4⟩ := xla_at (o + 2) h2 i v hi
            rw [show o + 2 + i = o + (i + 1 + 1) by omega] at h3
            exact ⟨u2, List.mem_cons_of_mem _ h3, h4⟩
theorem xRL_entry {sz b n : Nat} {as : List xV} {us : List Value} (h : xRS sz b as us) (hn : (xla as).length ≤ n) : xRL sz b (xloc n as) ((lg_sl us ++ List.replicate (n - (lg_sl us).length) Slot.unset).toArray) n := by
  refine ⟨?_, lv_args 0 us, lv_entry us (by rw [xla_len h]; exact hn), fun i v hi => ?_⟩
  · unfold xloc
    rw [List.length_append, List.length_replicate]
    omega
  · rw [xget_eq] at hi
    unfold xloc at hi
    by_cases hl : i < (xla as).length
    · rw [List.getElem?_append_left hl] at hi
      obtain ⟨u, h1, h2⟩ := xla_at 0 h i v hi
      rw [Nat.zero_add] at h1
      exact ⟨u, h1, h2⟩
    · rw [List.getElem?_append_right (by omega), List.getElem?_replicate] at hi
      split at hi <;> cases hi
theorem xcall_ok {PX : xPX} {PT : Nat → Option xT} {fuel : Nat} (hP : xProg PX PT) : ∀ d, xCalls PX d (xcall PT fuel d) := by
  intro d
  induction d with
  | zero => intro j as w r w' h; cases h
  | succ d ih =>
    intro j as w r w' h
    rw [xcall_s] at h
    cases hq : PT j with
    | none => simp only [hq] at h; cases h
    | some q =>
      simp only [hq] at h
      cases hb : Nat.ble (xla as).length q.2.1 with
      | false => rw [hb] at h; cases h
      | true =>
        rw [hb] at h
        have hb := xble hb
        cases hr : xrun q.1 (xcall PT fuel d) fuel (0, xloc q.2.1 as, [], w) with
        | none => simp only [hr, cond_true] at h; cases h
        | some r1 =>
          obtain ⟨pc1, L1, S1, w1⟩ := r1
          simp only [hr, cond_true] at h
          cases hfi : xfin (xrt q.2.2 pc1) S1 with
          | none => simp only [hfi] at h; cases h
          | some v =>
            simp only [hfi] at h
            cases h
            obtain ⟨y, cc, ret, hpx, hpl, hTr, hrets⟩ := hP j q hq
            have hrun := fun G => xrun_ok (hTr G) ih fuel 0 _ _ _ _ _ _ _ hr
            refine ⟨(hrun (fun _ _ _ => True)).1, fun qx hqx => ?_⟩
            cases hpx.symm.trans hqx
            intro l D tys sz b
            have hle := (hrun (fun _ _ _ => True)).1
            refine Met.ofW (cc := cc) (maxL := q.2.1) (ret := ret) hpl rfl ?_
            intro p e s m args below meth c s₁ B hml hv
            obtain ⟨us, rfl, hus, hws, hsz, hK, hmap, hxN⟩ := hv
            have hts := atoms_spec (ws := .code y cc q.2.1 ret :: xTB) B.pre
            have hown : s.vm.findClass y.cls = some m.cls := findClass_of_methodNamed B.named
            have hnm : meth.name = y.name := (name_of_methodNamed B.named B.method).1
            have hlocks := B.notSynchronized
            have hret := B.returns
            have k1 := hle.1
            have k2 := hle.2
            rw [lg_entry_eq]
            refine (hrun (fun _ _ _ => True)).2 p l e _ s m us.toArray below meth c _ q.2.1 D tys sz b w.2.1 w.1 ⟨B.exec, B.bytes, hml, hown, fun w hw => hts w (List.mem_cons_of_mem _ hw), hK, hmap, fun hi => by rw [hnm]; simpa using hi, hxN⟩ trivial (Nat.le_refl _) (Nat.le_refl _) (by show w'.2.1 ≤ w.2.1 + (w'.2.1 - w.2.1); omega) (by show w'.1 ≤ w.1 + (w'.1 - w.1); omega) _ [] s.heap [] 0 0 ⟨hws, hsz, va_S.rf, by omega, by omega, hsz⟩ (xRL_entry hus hb) rfl ?_
            intro ls' st' H' locs' cells' slots' hM hL hS
            obtain ⟨hws', hsz', hS', hM3, hM4, hM5⟩ := hM
            obtain rfl : cells' = w'.2.1 - w.2.1 := by omega
            obtain rfl : slots' = w'.1 - w.1 := by omega
            have hfr : ∀ q ∈ locs', (fun a => sz ≤ a) q.base := hS'.2.2
            have hxQ : ∀ (v' : Option Value), xRO sz b r v' → ∀ t : State, t.heap = H' → s.WarmedH t.vm → xQc D tys sz b r w' us.toArray s (.returned v') t := fun v' hv' t ht _ => ⟨v', rfl, hv', by rw [ht]; exact hws', by rw [ht]; exact hsz', hS'.F ht⟩
            have hne : ¬ xrt q.2.2 pc1 = 0 := fun h0 => by rw [h0] at hfi; cases hfi
            have hok := hrets pc1 hne
            generalize xrt q.2.2 pc1 = k at hfi hok
            rcases hok with ⟨rfl, hd, hre⟩ | ⟨rfl, hd, hre⟩ | ⟨rfl, hd, hre⟩ | ⟨rfl, hd, hre⟩
            · match S1, hfi, hS with
              | [.inl a], hfi, hS =>
                cases hfi
                obtain ⟨u, st2, rfl, ⟨x, rfl, hx⟩, rfl⟩ := hS
                exact W.iret B.exec B.bytes (by rw [hret, hre]) (hxQ _ ⟨_, rfl, x, rfl, hx⟩) hfr hd
            · match S1, hfi, hS with
              | [.inl a], hfi, hS =>
                obtain ⟨u, st2, rfl, ⟨x, rfl, hx⟩, rfl⟩ := hS
                cases hbb : (Nat.ble 2147483648 a.1 && Nat.ble a.2 2147483649) with
                | false => simp only [xfin, hbb] at hfi; cases hfi
                | true =>
                  simp only [xfin, hbb, cond_true] at hfi
                  cases hfi
                  simp only [Bool.and_eq_true] at hbb
                  have hnar : narrow .boolean (.int x) = .int x := by
                    rcases xz1 (x := x) (Nat.le_trans (xble hbb.1) hx.1) (Nat.le_trans hx.2 (xble hbb.2)) with rfl | rfl <;> decide +kernel
                  exact W.zret B.exec B.bytes (by rw [hret, hre]) hnar (hxQ _ ⟨_, rfl, x, rfl, hx⟩) hfr hd
            · match S1, hfi, hS with
              | [], hfi, hS =>
                cases hfi
                cases hS
                exact W.vret B.exec B.bytes (by rw [hret, hre]) (hxQ _ rfl) hfr hd
            · match S1, hfi, hS with
              | [.inr (.inr 0)], hfi, hS =>
                cases hfi
                obtain ⟨u, st2, rfl, ⟨x, rfl⟩, rfl⟩ := hS
                exact W.lret B.exec B.bytes (by rw [hret, hre]) (hxQ _ ⟨_, rfl, x, rfl⟩) hfr hd
end
