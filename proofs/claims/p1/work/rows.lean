section
-- ===== PART A: goes FIRST, ahead of the names: the tables' words, and 'selects' of the private methods out of them =====
/-- a private method of a class that the tables say can be made, by its rows of tables_1 -/
def lw_okq (q : MethodName × Nat) : Prop := (q.1.cls ≠ "java/lang/invoke/MethodHandle" ∧ q.1.cls ≠ "java/lang/invoke/VarHandle") ∧ Cond.instantiable q.1.cls q.2 ∈ tables_1 ∧ Cond.privateMethod q.1 ∈ tables_1 ∧ Cond.instanceMethod q.1 ∈ tables_1
theorem lw_p0 : lw_okq (⟨"CapitalCase$Script", "layDown", "(III)V"⟩, 15) := ⟨⟨by decide +kernel, by decide +kernel⟩, List.mem_of_getElem? (i := 32) (by decide +kernel), List.mem_of_getElem? (i := 45) (by decide +kernel), List.mem_of_getElem? (i := 46) (by decide +kernel)⟩
theorem lw_p1 : lw_okq (⟨"CapitalCase", "append", "(I)V"⟩, 16) := ⟨⟨by decide +kernel, by decide +kernel⟩, List.mem_of_getElem? (i := 24) (by decide +kernel), List.mem_of_getElem? (i := 497) (by decide +kernel), List.mem_of_getElem? (i := 498) (by decide +kernel)⟩
theorem lw_p2 : lw_okq (⟨"CapitalCase$Parser", "next", "()I"⟩, 10) := ⟨⟨by decide +kernel, by decide +kernel⟩, List.mem_of_getElem? (i := 145) (by decide +kernel), List.mem_of_getElem? (i := 647) (by decide +kernel), List.mem_of_getElem? (i := 648) (by decide +kernel)⟩
theorem lw_p3 : lw_okq (⟨"CapitalCase$Parser", "parseHouse", "()V"⟩, 10) := ⟨⟨by decide +kernel, by decide +kernel⟩, List.mem_of_getElem? (i := 145) (by decide +kernel), List.mem_of_getElem? (i := 651) (by decide +kernel), List.mem_of_getElem? (i := 652) (by decide +kernel)⟩
theorem lw_p4 : lw_okq (⟨"CapitalCase$Parser", "fail", "(I)Z"⟩, 10) := ⟨⟨by decide +kernel, by decide +kernel⟩, List.mem_of_getElem? (i := 145) (by decide +kernel), List.mem_of_getElem? (i := 655) (by decide +kernel), List.mem_of_getElem? (i := 656) (by decide +kernel)⟩
theorem lw_p5 : lw_okq (⟨"CapitalCase$Parser", "accept", "(I)Z"⟩, 10) := ⟨⟨by decide +kernel, by decide +kernel⟩, List.mem_of_getElem? (i := 145) (by decide +kernel), List.mem_of_getElem? (i := 659) (by decide +kernel), List.mem_of_getElem? (i := 660) (by decide +kernel)⟩
theorem lw_p6 : lw_okq (⟨"CapitalCase$Parser", "noteName", "(I)V"⟩, 10) := ⟨⟨by decide +kernel, by decide +kernel⟩, List.mem_of_getElem? (i := 145) (by decide +kernel), List.mem_of_getElem? (i := 663) (by decide +kernel), List.mem_of_getElem? (i := 664) (by decide +kernel)⟩
theorem lw_p7 : lw_okq (⟨"CapitalCase$Parser", "isSame", "(II)Z"⟩, 10) := ⟨⟨by decide +kernel, by decide +kernel⟩, List.mem_of_getElem? (i := 145) (by decide +kernel), List.mem_of_getElem? (i := 667) (by decide +kernel), List.mem_of_getElem? (i := 668) (by decide +kernel)⟩
theorem lw_p8 : lw_okq (⟨"CapitalCase$Parser", "noteLater", "(ZII)V"⟩, 10) := ⟨⟨by decide +kernel, by decide +kernel⟩, List.mem_of_getElem? (i := 145) (by decide +kernel), List.mem_of_getElem? (i := 671) (by decide +kernel), List.mem_of_getElem? (i := 672) (by decide +kernel)⟩
theorem lw_p9 : lw_okq (⟨"CapitalCase$Parser", "areLetters", "(I)Z"⟩, 10) := ⟨⟨by decide +kernel, by decide +kernel⟩, List.mem_of_getElem? (i := 145) (by decide +kernel), List.mem_of_getElem? (i := 675) (by decide +kernel), List.mem_of_getElem? (i := 676) (by decide +kernel)⟩
theorem lw_p10 : lw_okq (⟨"CapitalCase$Parser", "letterOf", "(II)I"⟩, 10) := ⟨⟨by decide +kernel, by decide +kernel⟩, List.mem_of_getElem? (i := 145) (by decide +kernel), List.mem_of_getElem? (i := 679) (by decide +kernel), List.mem_of_getElem? (i := 680) (by decide +kernel)⟩
theorem lw_p11 : lw_okq (⟨"CapitalCase$Parser", "parseVerse", "()V"⟩, 10) := ⟨⟨by decide +kernel, by decide +kernel⟩, List.mem_of_getElem? (i := 145) (by decide +kernel), List.mem_of_getElem? (i := 683) (by decide +kernel), List.mem_of_getElem? (i := 684) (by decide +kernel)⟩
theorem lw_p12 : lw_okq (⟨"CapitalCase$Parser", "intOf", "(III)I"⟩, 10) := ⟨⟨by decide +kernel, by decide +kernel⟩, List.mem_of_getElem? (i := 145) (by decide +kernel), List.mem_of_getElem? (i := 687) (by decide +kernel), List.mem_of_getElem? (i := 688) (by decide +kernel)⟩
theorem lw_p13 : lw_okq (⟨"CapitalCase$Parser", "parseLaw", "(I)V"⟩, 10) := ⟨⟨by decide +kernel, by decide +kernel⟩, List.mem_of_getElem? (i := 145) (by decide +kernel), List.mem_of_getElem? (i := 691) (by decide +kernel), List.mem_of_getElem? (i := 692) (by decide +kernel)⟩
theorem lw_p14 : lw_okq (⟨"CapitalCase$Parser", "parseSum", "(I)Z"⟩, 10) := ⟨⟨by decide +kernel, by decide +kernel⟩, List.mem_of_getElem? (i := 145) (by decide +kernel), List.mem_of_getElem? (i := 695) (by decide +kernel), List.mem_of_getElem? (i := 696) (by decide +kernel)⟩
theorem lw_p15 : lw_okq (⟨"CapitalCase$Parser", "parsePart", "(I)Z"⟩, 10) := ⟨⟨by decide +kernel, by decide +kernel⟩, List.mem_of_getElem? (i := 145) (by decide +kernel), List.mem_of_getElem? (i := 699) (by decide +kernel), List.mem_of_getElem? (i := 700) (by decide +kernel)⟩
def lw_privs_1 : List (MethodName × Nat) := [(⟨"CapitalCase$Script", "layDown", "(III)V"⟩, 15), (⟨"CapitalCase", "append", "(I)V"⟩, 16), (⟨"CapitalCase$Parser", "next", "()I"⟩, 10), (⟨"CapitalCase$Parser", "parseHouse", "()V"⟩, 10), (⟨"CapitalCase$Parser", "fail", "(I)Z"⟩, 10), (⟨"CapitalCase$Parser", "accept", "(I)Z"⟩, 10), (⟨"CapitalCase$Parser", "noteName", "(I)V"⟩, 10), (⟨"CapitalCase$Parser", "isSame", "(II)Z"⟩, 10), (⟨"CapitalCase$Parser", "noteLater", "(ZII)V"⟩, 10), (⟨"CapitalCase$Parser", "areLetters", "(I)Z"⟩, 10), (⟨"CapitalCase$Parser", "letterOf", "(II)I"⟩, 10), (⟨"CapitalCase$Parser", "parseVerse", "()V"⟩, 10), (⟨"CapitalCase$Parser", "intOf", "(III)I"⟩, 10), (⟨"CapitalCase$Parser", "parseLaw", "(I)V"⟩, 10), (⟨"CapitalCase$Parser", "parseSum", "(I)Z"⟩, 10), (⟨"CapitalCase$Parser", "parsePart", "(I)Z"⟩, 10)]
theorem lw_r1 : ∀ q ∈ lw_privs_1, lw_okq q := List.forall_mem_cons.mpr ⟨lw_p0, List.forall_mem_cons.mpr ⟨lw_p1, List.forall_mem_cons.mpr ⟨lw_p2, List.forall_mem_cons.mpr ⟨lw_p3, List.forall_mem_cons.mpr ⟨lw_p4, List.forall_mem_cons.mpr ⟨lw_p5, List.forall_mem_cons.mpr ⟨lw_p6, List.forall_mem_cons.mpr ⟨lw_p7, List.forall_mem_cons.mpr ⟨lw_p8, List.forall_mem_cons.mpr ⟨lw_p9, List.forall_mem_cons.mpr ⟨lw_p10, List.forall_mem_cons.mpr ⟨lw_p11, List.forall_mem_cons.mpr ⟨lw_p12, List.forall_mem_cons.mpr ⟨lw_p13, List.forall_mem_cons.mpr ⟨lw_p14, List.forall_mem_cons.mpr ⟨lw_p15, fun _ h => absurd h List.not_mem_nil⟩⟩⟩⟩⟩⟩⟩⟩⟩⟩⟩⟩⟩⟩⟩⟩
theorem lw_p16 : lw_okq (⟨"CapitalCase$Parser", "parseUnit", "(I)Z"⟩, 10) := ⟨⟨by decide +kernel, by decide +kernel⟩, List.mem_of_getElem? (i := 145) (by decide +kernel), List.mem_of_getElem? (i := 703) (by decide +kernel), List.mem_of_getElem? (i := 704) (by decide +kernel)⟩
theorem lw_p17 : lw_okq (⟨"CapitalCase$Parser", "parseNumber", "(I)V"⟩, 10) := ⟨⟨by decide +kernel, by decide +kernel⟩, List.mem_of_getElem? (i := 145) (by decide +kernel), List.mem_of_getElem? (i := 712) (by decide +kernel), List.mem_of_getElem? (i := 713) (by decide +kernel)⟩
theorem lw_p18 : lw_okq (⟨"CapitalCase", "beginAnew", "()V"⟩, 16) := ⟨⟨by decide +kernel, by decide +kernel⟩, List.mem_of_getElem? (i := 24) (by decide +kernel), List.mem_of_getElem? (i := 723) (by decide +kernel), List.mem_of_getElem? (i := 724) (by decide +kernel)⟩
theorem lw_p19 : lw_okq (⟨"CapitalCase", "isCell", "(II)Z"⟩, 16) := ⟨⟨by decide +kernel, by decide +kernel⟩, List.mem_of_getElem? (i := 24) (by decide +kernel), List.mem_of_getElem? (i := 741) (by decide +kernel), List.mem_of_getElem? (i := 742) (by decide +kernel)⟩
theorem lw_p20 : lw_okq (⟨"CapitalCase", "isHouse", "(I)Z"⟩, 16) := ⟨⟨by decide +kernel, by decide +kernel⟩, List.mem_of_getElem? (i := 24) (by decide +kernel), List.mem_of_getElem? (i := 745) (by decide +kernel), List.mem_of_getElem? (i := 746) (by decide +kernel)⟩
theorem lw_p21 : lw_okq (⟨"CapitalCase$Judge", "lookAtHouse", "(LCapitalCase$Town;II)V"⟩, 3) := ⟨⟨by decide +kernel, by decide +kernel⟩, List.mem_of_getElem? (i := 307) (by decide +kernel), List.mem_of_getElem? (i := 767) (by decide +kernel), List.mem_of_getElem? (i := 768) (by decide +kernel)⟩
theorem lw_p22 : lw_okq (⟨"CapitalCase$Judge", "judge", "(I)I"⟩, 3) := ⟨⟨by decide +kernel, by decide +kernel⟩, List.mem_of_getElem? (i := 307) (by decide +kernel), List.mem_of_getElem? (i := 772) (by decide +kernel), List.mem_of_getElem? (i := 773) (by decide +kernel)⟩
theorem lw_p23 : lw_okq (⟨"CapitalCase", "isVerse", "(I)Z"⟩, 16) := ⟨⟨by decide +kernel, by decide +kernel⟩, List.mem_of_getElem? (i := 24) (by decide +kernel), List.mem_of_getElem? (i := 785) (by decide +kernel), List.mem_of_getElem? (i := 786) (by decide +kernel)⟩
theorem lw_p24 : lw_okq (⟨"CapitalCase", "standOf", "(I)I"⟩, 16) := ⟨⟨by decide +kernel, by decide +kernel⟩, List.mem_of_getElem? (i := 24) (by decide +kernel), List.mem_of_getElem? (i := 789) (by decide +kernel), List.mem_of_getElem? (i := 790) (by decide +kernel)⟩
theorem lw_p25 : lw_okq (⟨"CapitalCase$Judge", "lookAtVerse", "(I)V"⟩, 3) := ⟨⟨by decide +kernel, by decide +kernel⟩, List.mem_of_getElem? (i := 307) (by decide +kernel), List.mem_of_getElem? (i := 797) (by decide +kernel), List.mem_of_getElem? (i := 798) (by decide +kernel)⟩
theorem lw_p26 : lw_okq (⟨"CapitalCase", "isOpen", "(I)Z"⟩, 16) := ⟨⟨by decide +kernel, by decide +kernel⟩, List.mem_of_getElem? (i := 24) (by decide +kernel), List.mem_of_getElem? (i := 822) (by decide +kernel), List.mem_of_getElem? (i := 823) (by decide +kernel)⟩
theorem lw_p27 : lw_okq (⟨"CapitalCase", "couldBeSet", "(I)Z"⟩, 16) := ⟨⟨by decide +kernel, by decide +kernel⟩, List.mem_of_getElem? (i := 24) (by decide +kernel), List.mem_of_getElem? (i := 830) (by decide +kernel), List.mem_of_getElem? (i := 831) (by decide +kernel)⟩
theorem lw_p28 : lw_okq (⟨"CapitalCase$Planner", "orderGivers", "(LCapitalCase$Town;II)V"⟩, 12) := ⟨⟨by decide +kernel, by decide +kernel⟩, List.mem_of_getElem? (i := 336) (by decide +kernel), List.mem_of_getElem? (i := 840) (by decide +kernel), List.mem_of_getElem? (i := 841) (by decide +kernel)⟩
theorem lw_p29 : lw_okq (⟨"CapitalCase$Planner", "pick", "(II)I"⟩, 12) := ⟨⟨by decide +kernel, by decide +kernel⟩, List.mem_of_getElem? (i := 336) (by decide +kernel), List.mem_of_getElem? (i := 850) (by decide +kernel), List.mem_of_getElem? (i := 851) (by decide +kernel)⟩
theorem lw_p30 : lw_okq (⟨"CapitalCase$Press", "wear", "(LCapitalCase$Town;II)Z"⟩, 2) := ⟨⟨by decide +kernel, by decide +kernel⟩, List.mem_of_getElem? (i := 323) (by decide +kernel), List.mem_of_getElem? (i := 909) (by decide +kernel), List.mem_of_getElem? (i := 910) (by decide +kernel)⟩
theorem lw_p31 : lw_okq (⟨"CapitalCase$Press", "steal", "(LCapitalCase$Town;I)V"⟩, 2) := ⟨⟨by decide +kernel, by decide +kernel⟩, List.mem_of_getElem? (i := 323) (by decide +kernel), List.mem_of_getElem? (i := 919) (by decide +kernel), List.mem_of_getElem? (i := 920) (by decide +kernel)⟩
def lw_privs_2 : List (MethodName × Nat) := [(⟨"CapitalCase$Parser", "parseUnit", "(I)Z"⟩, 10), (⟨"CapitalCase$Parser", "parseNumber", "(I)V"⟩, 10), (⟨"CapitalCase", "beginAnew", "()V"⟩, 16), (⟨"CapitalCase", "isCell", "(II)Z"⟩, 16), (⟨"CapitalCase", "isHouse", "(I)Z"⟩, 16), (⟨"CapitalCase$Judge", "lookAtHouse", "(LCapitalCase$Town;II)V"⟩, 3), (⟨"CapitalCase$Judge", "judge", "(I)I"⟩, 3), (⟨"CapitalCase", "isVerse", "(I)Z"⟩, 16), (⟨"CapitalCase", "standOf", "(I)I"⟩, 16), (⟨"CapitalCase$Judge", "lookAtVerse", "(I)V"⟩, 3), (⟨"CapitalCase", "isOpen", "(I)Z"⟩, 16), (⟨"CapitalCase", "couldBeSet", "(I)Z"⟩, 16), (⟨"CapitalCase$Planner", "orderGivers", "(LCapitalCase$Town;II)V"⟩, 12), (⟨"CapitalCase$Planner", "pick", "(II)I"⟩, 12), (⟨"CapitalCase$Press", "wear", "(LCapitalCase$Town;II)Z"⟩, 2), (⟨"CapitalCase$Press", "steal", "(LCapitalCase$Town;I)V"⟩, 2)]
theorem lw_r2 : ∀ q ∈ lw_privs_2, lw_okq q := List.forall_mem_cons.mpr ⟨lw_p16, List.forall_mem_cons.mpr ⟨lw_p17, List.forall_mem_cons.mpr ⟨lw_p18, List.forall_mem_cons.mpr ⟨lw_p19, List.forall_mem_cons.mpr ⟨lw_p20, List.forall_mem_cons.mpr ⟨lw_p21, List.forall_mem_cons.mpr ⟨lw_p22, List.forall_mem_cons.mpr ⟨lw_p23, List.forall_mem_cons.mpr ⟨lw_p24, List.forall_mem_cons.mpr ⟨lw_p25, List.forall_mem_cons.mpr ⟨lw_p26, List.forall_mem_cons.mpr ⟨lw_p27, List.forall_mem_cons.mpr ⟨lw_p28, List.forall_mem_cons.mpr ⟨lw_p29, List.forall_mem_cons.mpr ⟨lw_p30, List.forall_mem_cons.mpr ⟨lw_p31, fun _ h => absurd h List.not_mem_nil⟩⟩⟩⟩⟩⟩⟩⟩⟩⟩⟩⟩⟩⟩⟩⟩
theorem lw_p32 : lw_okq (⟨"CapitalCase$Planner", "search", "()V"⟩, 12) := ⟨⟨by decide +kernel, by decide +kernel⟩, List.mem_of_getElem? (i := 336) (by decide +kernel), List.mem_of_getElem? (i := 957) (by decide +kernel), List.mem_of_getElem? (i := 958) (by decide +kernel)⟩
theorem lw_p33 : lw_okq (⟨"CapitalCase$Planner", "keepIfMore", "(II)V"⟩, 12) := ⟨⟨by decide +kernel, by decide +kernel⟩, List.mem_of_getElem? (i := 336) (by decide +kernel), List.mem_of_getElem? (i := 962) (by decide +kernel), List.mem_of_getElem? (i := 963) (by decide +kernel)⟩
theorem lw_p34 : lw_okq (⟨"CapitalCase$TwoDays", "total", "([II)I"⟩, 9) := ⟨⟨by decide +kernel, by decide +kernel⟩, List.mem_of_getElem? (i := 386) (by decide +kernel), List.mem_of_getElem? (i := 994) (by decide +kernel), List.mem_of_getElem? (i := 995) (by decide +kernel)⟩
theorem lw_p35 : lw_okq (⟨"CapitalCase$TwoDays", "takeAll", "(I)Z"⟩, 9) := ⟨⟨by decide +kernel, by decide +kernel⟩, List.mem_of_getElem? (i := 386) (by decide +kernel), List.mem_of_getElem? (i := 998) (by decide +kernel), List.mem_of_getElem? (i := 999) (by decide +kernel)⟩
theorem lw_p36 : lw_okq (⟨"CapitalCase$TwoDays", "giveUpAll", "(I)V"⟩, 9) := ⟨⟨by decide +kernel, by decide +kernel⟩, List.mem_of_getElem? (i := 386) (by decide +kernel), List.mem_of_getElem? (i := 1003) (by decide +kernel), List.mem_of_getElem? (i := 1004) (by decide +kernel)⟩
theorem lw_p37 : lw_okq (⟨"CapitalCase$TwoDays", "passFirst", "(LCapitalCase$Town;I)V"⟩, 9) := ⟨⟨by decide +kernel, by decide +kernel⟩, List.mem_of_getElem? (i := 386) (by decide +kernel), List.mem_of_getElem? (i := 1008) (by decide +kernel), List.mem_of_getElem? (i := 1009) (by decide +kernel)⟩
theorem lw_p38 : lw_okq (⟨"CapitalCase$Trade", "freeElsewhere", "(LCapitalCase$Town;II)I"⟩, 3) := ⟨⟨by decide +kernel, by decide +kernel⟩, List.mem_of_getElem? (i := 426) (by decide +kernel), List.mem_of_getElem? (i := 1025) (by decide +kernel), List.mem_of_getElem? (i := 1026) (by decide +kernel)⟩
theorem lw_p39 : lw_okq (⟨"CapitalCase$Trade", "seekBetween", "(LCapitalCase$Town;II)V"⟩, 3) := ⟨⟨by decide +kernel, by decide +kernel⟩, List.mem_of_getElem? (i := 426) (by decide +kernel), List.mem_of_getElem? (i := 1038) (by decide +kernel), List.mem_of_getElem? (i := 1039) (by decide +kernel)⟩
theorem lw_p40 : lw_okq (⟨"CapitalCase$Trade", "gains", "(LCapitalCase$Town;III)Z"⟩, 3) := ⟨⟨by decide +kernel, by decide +kernel⟩, List.mem_of_getElem? (i := 426) (by decide +kernel), List.mem_of_getElem? (i := 1042) (by decide +kernel), List.mem_of_getElem? (i := 1043) (by decide +kernel)⟩
theorem lw_p41 : lw_okq (⟨"CapitalCase$Trade", "versesAlone", "(LCapitalCase$Town;III)I"⟩, 3) := ⟨⟨by decide +kernel, by decide +kernel⟩, List.mem_of_getElem? (i := 426) (by decide +kernel), List.mem_of_getElem? (i := 1046) (by decide +kernel), List.mem_of_getElem? (i := 1047) (by decide +kernel)⟩
theorem lw_p42 : lw_okq (⟨"CapitalCase", "heldSlots", "()I"⟩, 16) := ⟨⟨by decide +kernel, by decide +kernel⟩, List.mem_of_getElem? (i := 24) (by decide +kernel), List.mem_of_getElem? (i := 1139) (by decide +kernel), List.mem_of_getElem? (i := 1140) (by decide +kernel)⟩
theorem lw_p43 : lw_okq (⟨"CapitalCase", "settable", "()I"⟩, 16) := ⟨⟨by decide +kernel, by decide +kernel⟩, List.mem_of_getElem? (i := 24) (by decide +kernel), List.mem_of_getElem? (i := 1144) (by decide +kernel), List.mem_of_getElem? (i := 1145) (by decide +kernel)⟩
theorem lw_p44 : lw_okq (⟨"CapitalCaseModel", "plain", "(I)V"⟩, 70) := ⟨⟨by decide +kernel, by decide +kernel⟩, List.mem_of_getElem? (i := 1148) (by decide +kernel), List.mem_of_getElem? (i := 1154) (by decide +kernel), List.mem_of_getElem? (i := 1155) (by decide +kernel)⟩
theorem lw_p45 : lw_okq (⟨"CapitalCaseModel", "begins", "()V"⟩, 70) := ⟨⟨by decide +kernel, by decide +kernel⟩, List.mem_of_getElem? (i := 1148) (by decide +kernel), List.mem_of_getElem? (i := 1165) (by decide +kernel), List.mem_of_getElem? (i := 1166) (by decide +kernel)⟩
theorem lw_p46 : lw_okq (⟨"CapitalCaseModel", "keepsRow", "()V"⟩, 70) := ⟨⟨by decide +kernel, by decide +kernel⟩, List.mem_of_getElem? (i := 1148) (by decide +kernel), List.mem_of_getElem? (i := 1169) (by decide +kernel), List.mem_of_getElem? (i := 1170) (by decide +kernel)⟩
theorem lw_p47 : lw_okq (⟨"CapitalCaseModel", "put", "(I)V"⟩, 70) := ⟨⟨by decide +kernel, by decide +kernel⟩, List.mem_of_getElem? (i := 1148) (by decide +kernel), List.mem_of_getElem? (i := 1388) (by decide +kernel), List.mem_of_getElem? (i := 1389) (by decide +kernel)⟩
def lw_privs_3 : List (MethodName × Nat) := [(⟨"CapitalCase$Planner", "search", "()V"⟩, 12), (⟨"CapitalCase$Planner", "keepIfMore", "(II)V"⟩, 12), (⟨"CapitalCase$TwoDays", "total", "([II)I"⟩, 9), (⟨"CapitalCase$TwoDays", "takeAll", "(I)Z"⟩, 9), (⟨"CapitalCase$TwoDays", "giveUpAll", "(I)V"⟩, 9), (⟨"CapitalCase$TwoDays", "passFirst", "(LCapitalCase$Town;I)V"⟩, 9), (⟨"CapitalCase$Trade", "freeElsewhere", "(LCapitalCase$Town;II)I"⟩, 3), (⟨"CapitalCase$Trade", "seekBetween", "(LCapitalCase$Town;II)V"⟩, 3), (⟨"CapitalCase$Trade", "gains", "(LCapitalCase$Town;III)Z"⟩, 3), (⟨"CapitalCase$Trade", "versesAlone", "(LCapitalCase$Town;III)I"⟩, 3), (⟨"CapitalCase", "heldSlots", "()I"⟩, 16), (⟨"CapitalCase", "settable", "()I"⟩, 16), (⟨"CapitalCaseModel", "plain", "(I)V"⟩, 70), (⟨"CapitalCaseModel", "begins", "()V"⟩, 70), (⟨"CapitalCaseModel", "keepsRow", "()V"⟩, 70), (⟨"CapitalCaseModel", "put", "(I)V"⟩, 70)]
theorem lw_r3 : ∀ q ∈ lw_privs_3, lw_okq q := List.forall_mem_cons.mpr ⟨lw_p32, List.forall_mem_cons.mpr ⟨lw_p33, List.forall_mem_cons.mpr ⟨lw_p34, List.forall_mem_cons.mpr ⟨lw_p35, List.forall_mem_cons.mpr ⟨lw_p36, List.forall_mem_cons.mpr ⟨lw_p37, List.forall_mem_cons.mpr ⟨lw_p38, List.forall_mem_cons.mpr ⟨lw_p39, List.forall_mem_cons.mpr ⟨lw_p40, List.forall_mem_cons.mpr ⟨lw_p41, List.forall_mem_cons.mpr ⟨lw_p42, List.forall_mem_cons.mpr ⟨lw_p43, List.forall_mem_cons.mpr ⟨lw_p44, List.forall_mem_cons.mpr ⟨lw_p45, List.forall_mem_cons.mpr ⟨lw_p46, List.forall_mem_cons.mpr ⟨lw_p47, fun _ h => absurd h List.not_mem_nil⟩⟩⟩⟩⟩⟩⟩⟩⟩⟩⟩⟩⟩⟩⟩⟩
theorem lw_p48 : lw_okq (⟨"CapitalCaseModel", "cut", "()V"⟩, 70) := ⟨⟨by decide +kernel, by decide +kernel⟩, List.mem_of_getElem? (i := 1148) (by decide +kernel), List.mem_of_getElem? (i := 1400) (by decide +kernel), List.mem_of_getElem? (i := 1401) (by decide +kernel)⟩
theorem lw_p49 : lw_okq (⟨"CapitalCaseModel", "byteAt", "(I)I"⟩, 70) := ⟨⟨by decide +kernel, by decide +kernel⟩, List.mem_of_getElem? (i := 1148) (by decide +kernel), List.mem_of_getElem? (i := 1404) (by decide +kernel), List.mem_of_getElem? (i := 1405) (by decide +kernel)⟩
theorem lw_p50 : lw_okq (⟨"CapitalCaseModel", "token", "(IIIJ)V"⟩, 70) := ⟨⟨by decide +kernel, by decide +kernel⟩, List.mem_of_getElem? (i := 1148) (by decide +kernel), List.mem_of_getElem? (i := 1408) (by decide +kernel), List.mem_of_getElem? (i := 1409) (by decide +kernel)⟩
theorem lw_p51 : lw_okq (⟨"CapitalCaseModel", "sign", "(III)I"⟩, 70) := ⟨⟨by decide +kernel, by decide +kernel⟩, List.mem_of_getElem? (i := 1148) (by decide +kernel), List.mem_of_getElem? (i := 1418) (by decide +kernel), List.mem_of_getElem? (i := 1419) (by decide +kernel)⟩
theorem lw_p52 : lw_okq (⟨"CapitalCaseModel", "is", "(I)Z"⟩, 70) := ⟨⟨by decide +kernel, by decide +kernel⟩, List.mem_of_getElem? (i := 1148) (by decide +kernel), List.mem_of_getElem? (i := 1422) (by decide +kernel), List.mem_of_getElem? (i := 1423) (by decide +kernel)⟩
theorem lw_p53 : lw_okq (⟨"CapitalCaseModel", "tellOne", "()V"⟩, 70) := ⟨⟨by decide +kernel, by decide +kernel⟩, List.mem_of_getElem? (i := 1148) (by decide +kernel), List.mem_of_getElem? (i := 1426) (by decide +kernel), List.mem_of_getElem? (i := 1427) (by decide +kernel)⟩
theorem lw_p54 : lw_okq (⟨"CapitalCaseModel", "roomFor", "(II)V"⟩, 70) := ⟨⟨by decide +kernel, by decide +kernel⟩, List.mem_of_getElem? (i := 1148) (by decide +kernel), List.mem_of_getElem? (i := 1430) (by decide +kernel), List.mem_of_getElem? (i := 1431) (by decide +kernel)⟩
theorem lw_p55 : lw_okq (⟨"CapitalCaseModel", "fail", "(I)V"⟩, 70) := ⟨⟨by decide +kernel, by decide +kernel⟩, List.mem_of_getElem? (i := 1148) (by decide +kernel), List.mem_of_getElem? (i := 1434) (by decide +kernel), List.mem_of_getElem? (i := 1435) (by decide +kernel)⟩
theorem lw_p56 : lw_okq (⟨"CapitalCaseModel", "goesOn", "()V"⟩, 70) := ⟨⟨by decide +kernel, by decide +kernel⟩, List.mem_of_getElem? (i := 1148) (by decide +kernel), List.mem_of_getElem? (i := 1438) (by decide +kernel), List.mem_of_getElem? (i := 1439) (by decide +kernel)⟩
theorem lw_p57 : lw_okq (⟨"CapitalCaseModel", "tellHouse", "()V"⟩, 70) := ⟨⟨by decide +kernel, by decide +kernel⟩, List.mem_of_getElem? (i := 1148) (by decide +kernel), List.mem_of_getElem? (i := 1442) (by decide +kernel), List.mem_of_getElem? (i := 1443) (by decide +kernel)⟩
theorem lw_p58 : lw_okq (⟨"CapitalCaseModel", "named", "()I"⟩, 70) := ⟨⟨by decide +kernel, by decide +kernel⟩, List.mem_of_getElem? (i := 1148) (by decide +kernel), List.mem_of_getElem? (i := 1446) (by decide +kernel), List.mem_of_getElem? (i := 1447) (by decide +kernel)⟩
theorem lw_p59 : lw_okq (⟨"CapitalCaseModel", "must", "(I)V"⟩, 70) := ⟨⟨by decide +kernel, by decide +kernel⟩, List.mem_of_getElem? (i := 1148) (by decide +kernel), List.mem_of_getElem? (i := 1450) (by decide +kernel), List.mem_of_getElem? (i := 1451) (by decide +kernel)⟩
theorem lw_p60 : lw_okq (⟨"CapitalCaseModel", "wrong", "(II)V"⟩, 70) := ⟨⟨by decide +kernel, by decide +kernel⟩, List.mem_of_getElem? (i := 1148) (by decide +kernel), List.mem_of_getElem? (i := 1454) (by decide +kernel), List.mem_of_getElem? (i := 1455) (by decide +kernel)⟩
theorem lw_p61 : lw_okq (⟨"CapitalCaseModel", "takesLetters", "()V"⟩, 70) := ⟨⟨by decide +kernel, by decide +kernel⟩, List.mem_of_getElem? (i := 1148) (by decide +kernel), List.mem_of_getElem? (i := 1458) (by decide +kernel), List.mem_of_getElem? (i := 1459) (by decide +kernel)⟩
theorem lw_p62 : lw_okq (⟨"CapitalCaseModel", "ends", "(I)V"⟩, 70) := ⟨⟨by decide +kernel, by decide +kernel⟩, List.mem_of_getElem? (i := 1148) (by decide +kernel), List.mem_of_getElem? (i := 1468) (by decide +kernel), List.mem_of_getElem? (i := 1469) (by decide +kernel)⟩
theorem lw_p63 : lw_okq (⟨"CapitalCaseModel", "tellVerse", "()V"⟩, 70) := ⟨⟨by decide +kernel, by decide +kernel⟩, List.mem_of_getElem? (i := 1148) (by decide +kernel), List.mem_of_getElem? (i := 1472) (by decide +kernel), List.mem_of_getElem? (i := 1473) (by decide +kernel)⟩
def lw_privs_4 : List (MethodName × Nat) := [(⟨"CapitalCaseModel", "cut", "()V"⟩, 70), (⟨"CapitalCaseModel", "byteAt", "(I)I"⟩, 70), (⟨"CapitalCaseModel", "token", "(IIIJ)V"⟩, 70), (⟨"CapitalCaseModel", "sign", "(III)I"⟩, 70), (⟨"CapitalCaseModel", "is", "(I)Z"⟩, 70), (⟨"CapitalCaseModel", "tellOne", "()V"⟩, 70), (⟨"CapitalCaseModel", "roomFor", "(II)V"⟩, 70), (⟨"CapitalCaseModel", "fail", "(I)V"⟩, 70), (⟨"CapitalCaseModel", "goesOn", "()V"⟩, 70), (⟨"CapitalCaseModel", "tellHouse", "()V"⟩, 70), (⟨"CapitalCaseModel", "named", "()I"⟩, 70), (⟨"CapitalCaseModel", "must", "(I)V"⟩, 70), (⟨"CapitalCaseModel", "wrong", "(II)V"⟩, 70), (⟨"CapitalCaseModel", "takesLetters", "()V"⟩, 70), (⟨"CapitalCaseModel", "ends", "(I)V"⟩, 70), (⟨"CapitalCaseModel", "tellVerse", "()V"⟩, 70)]
theorem lw_r4 : ∀ q ∈ lw_privs_4, lw_okq q := List.forall_mem_cons.mpr ⟨lw_p48, List.forall_mem_cons.mpr ⟨lw_p49, List.forall_mem_cons.mpr ⟨lw_p50, List.forall_mem_cons.mpr ⟨lw_p51, List.forall_mem_cons.mpr ⟨lw_p52, List.forall_mem_cons.mpr ⟨lw_p53, List.forall_mem_cons.mpr ⟨lw_p54, List.forall_mem_cons.mpr ⟨lw_p55, List.forall_mem_cons.mpr ⟨lw_p56, List.forall_mem_cons.mpr ⟨lw_p57, List.forall_mem_cons.mpr ⟨lw_p58, List.forall_mem_cons.mpr ⟨lw_p59, List.forall_mem_cons.mpr ⟨lw_p60, List.forall_mem_cons.mpr ⟨lw_p61, List.forall_mem_cons.mpr ⟨lw_p62, List.forall_mem_cons.mpr ⟨lw_p63, fun _ h => absurd h List.not_mem_nil⟩⟩⟩⟩⟩⟩⟩⟩⟩⟩⟩⟩⟩⟩⟩⟩
theorem lw_p64 : lw_okq (⟨"CapitalCaseModel", "bounded", "(II)I"⟩, 70) := ⟨⟨by decide +kernel, by decide +kernel⟩, List.mem_of_getElem? (i := 1148) (by decide +kernel), List.mem_of_getElem? (i := 1476) (by decide +kernel), List.mem_of_getElem? (i := 1477) (by decide +kernel)⟩
theorem lw_p65 : lw_okq (⟨"CapitalCaseModel", "toldInt", "(II)I"⟩, 70) := ⟨⟨by decide +kernel, by decide +kernel⟩, List.mem_of_getElem? (i := 1148) (by decide +kernel), List.mem_of_getElem? (i := 1480) (by decide +kernel), List.mem_of_getElem? (i := 1481) (by decide +kernel)⟩
theorem lw_p66 : lw_okq (⟨"CapitalCaseModel", "tellLaw", "(I)V"⟩, 70) := ⟨⟨by decide +kernel, by decide +kernel⟩, List.mem_of_getElem? (i := 1148) (by decide +kernel), List.mem_of_getElem? (i := 1484) (by decide +kernel), List.mem_of_getElem? (i := 1485) (by decide +kernel)⟩
theorem lw_p67 : lw_okq (⟨"CapitalCaseModel", "expression", "()V"⟩, 70) := ⟨⟨by decide +kernel, by decide +kernel⟩, List.mem_of_getElem? (i := 1148) (by decide +kernel), List.mem_of_getElem? (i := 1488) (by decide +kernel), List.mem_of_getElem? (i := 1489) (by decide +kernel)⟩
theorem lw_p68 : lw_okq (⟨"CapitalCaseModel", "unit", "()V"⟩, 70) := ⟨⟨by decide +kernel, by decide +kernel⟩, List.mem_of_getElem? (i := 1148) (by decide +kernel), List.mem_of_getElem? (i := 1492) (by decide +kernel), List.mem_of_getElem? (i := 1493) (by decide +kernel)⟩
theorem lw_p69 : lw_okq (⟨"CapitalCaseModel", "emit", "(II)V"⟩, 70) := ⟨⟨by decide +kernel, by decide +kernel⟩, List.mem_of_getElem? (i := 1148) (by decide +kernel), List.mem_of_getElem? (i := 1496) (by decide +kernel), List.mem_of_getElem? (i := 1497) (by decide +kernel)⟩
theorem lw_p70 : lw_okq (⟨"CapitalCaseModel", "comesOut", "(Z)V"⟩, 70) := ⟨⟨by decide +kernel, by decide +kernel⟩, List.mem_of_getElem? (i := 1148) (by decide +kernel), List.mem_of_getElem? (i := 1500) (by decide +kernel), List.mem_of_getElem? (i := 1501) (by decide +kernel)⟩
theorem lw_p71 : lw_okq (⟨"CapitalCaseModel", "term", "()V"⟩, 70) := ⟨⟨by decide +kernel, by decide +kernel⟩, List.mem_of_getElem? (i := 1148) (by decide +kernel), List.mem_of_getElem? (i := 1504) (by decide +kernel), List.mem_of_getElem? (i := 1505) (by decide +kernel)⟩
theorem lw_p72 : lw_okq (⟨"CapitalCaseModel", "isHouse", "(I)Z"⟩, 70) := ⟨⟨by decide +kernel, by decide +kernel⟩, List.mem_of_getElem? (i := 1148) (by decide +kernel), List.mem_of_getElem? (i := 1516) (by decide +kernel), List.mem_of_getElem? (i := 1517) (by decide +kernel)⟩
theorem lw_p73 : lw_okq (⟨"CapitalCaseModel", "copies", "()V"⟩, 70) := ⟨⟨by decide +kernel, by decide +kernel⟩, List.mem_of_getElem? (i := 1148) (by decide +kernel), List.mem_of_getElem? (i := 1526) (by decide +kernel), List.mem_of_getElem? (i := 1527) (by decide +kernel)⟩
theorem lw_p74 : lw_okq (⟨"CapitalCaseModel", "freeOf", "(II)I"⟩, 70) := ⟨⟨by decide +kernel, by decide +kernel⟩, List.mem_of_getElem? (i := 1148) (by decide +kernel), List.mem_of_getElem? (i := 1530) (by decide +kernel), List.mem_of_getElem? (i := 1531) (by decide +kernel)⟩
theorem lw_p75 : lw_okq (⟨"CapitalCaseModel", "lentOut", "(II)I"⟩, 70) := ⟨⟨by decide +kernel, by decide +kernel⟩, List.mem_of_getElem? (i := 1148) (by decide +kernel), List.mem_of_getElem? (i := 1534) (by decide +kernel), List.mem_of_getElem? (i := 1535) (by decide +kernel)⟩
theorem lw_p76 : lw_okq (⟨"CapitalCaseModel", "lentTo", "(II)I"⟩, 70) := ⟨⟨by decide +kernel, by decide +kernel⟩, List.mem_of_getElem? (i := 1148) (by decide +kernel), List.mem_of_getElem? (i := 1538) (by decide +kernel), List.mem_of_getElem? (i := 1539) (by decide +kernel)⟩
theorem lw_p77 : lw_okq (⟨"CapitalCaseModel", "wearsOf", "(II)I"⟩, 70) := ⟨⟨by decide +kernel, by decide +kernel⟩, List.mem_of_getElem? (i := 1148) (by decide +kernel), List.mem_of_getElem? (i := 1542) (by decide +kernel), List.mem_of_getElem? (i := 1543) (by decide +kernel)⟩
theorem lw_p78 : lw_okq (⟨"CapitalCaseModel", "looksAt", "(II)V"⟩, 70) := ⟨⟨by decide +kernel, by decide +kernel⟩, List.mem_of_getElem? (i := 1148) (by decide +kernel), List.mem_of_getElem? (i := 1546) (by decide +kernel), List.mem_of_getElem? (i := 1547) (by decide +kernel)⟩
theorem lw_p79 : lw_okq (⟨"CapitalCaseModel", "looks", "()V"⟩, 70) := ⟨⟨by decide +kernel, by decide +kernel⟩, List.mem_of_getElem? (i := 1148) (by decide +kernel), List.mem_of_getElem? (i := 1550) (by decide +kernel), List.mem_of_getElem? (i := 1551) (by decide +kernel)⟩
def lw_privs_5 : List (MethodName × Nat) := [(⟨"CapitalCaseModel", "bounded", "(II)I"⟩, 70), (⟨"CapitalCaseModel", "toldInt", "(II)I"⟩, 70), (⟨"CapitalCaseModel", "tellLaw", "(I)V"⟩, 70), (⟨"CapitalCaseModel", "expression", "()V"⟩, 70), (⟨"CapitalCaseModel", "unit", "()V"⟩, 70), (⟨"CapitalCaseModel", "emit", "(II)V"⟩, 70), (⟨"CapitalCaseModel", "comesOut", "(Z)V"⟩, 70), (⟨"CapitalCaseModel", "term", "()V"⟩, 70), (⟨"CapitalCaseModel", "isHouse", "(I)Z"⟩, 70), (⟨"CapitalCaseModel", "copies", "()V"⟩, 70), (⟨"CapitalCaseModel", "freeOf", "(II)I"⟩, 70), (⟨"CapitalCaseModel", "lentOut", "(II)I"⟩, 70), (⟨"CapitalCaseModel", "lentTo", "(II)I"⟩, 70), (⟨"CapitalCaseModel", "wearsOf", "(II)I"⟩, 70), (⟨"CapitalCaseModel", "looksAt", "(II)V"⟩, 70), (⟨"CapitalCaseModel", "looks", "()V"⟩, 70)]
theorem lw_r5 : ∀ q ∈ lw_privs_5, lw_okq q := List.forall_mem_cons.mpr ⟨lw_p64, List.forall_mem_cons.mpr ⟨lw_p65, List.forall_mem_cons.mpr ⟨lw_p66, List.forall_mem_cons.mpr ⟨lw_p67, List.forall_mem_cons.mpr ⟨lw_p68, List.forall_mem_cons.mpr ⟨lw_p69, List.forall_mem_cons.mpr ⟨lw_p70, List.forall_mem_cons.mpr ⟨lw_p71, List.forall_mem_cons.mpr ⟨lw_p72, List.forall_mem_cons.mpr ⟨lw_p73, List.forall_mem_cons.mpr ⟨lw_p74, List.forall_mem_cons.mpr ⟨lw_p75, List.forall_mem_cons.mpr ⟨lw_p76, List.forall_mem_cons.mpr ⟨lw_p77, List.forall_mem_cons.mpr ⟨lw_p78, List.forall_mem_cons.mpr ⟨lw_p79, fun _ h => absurd h List.not_mem_nil⟩⟩⟩⟩⟩⟩⟩⟩⟩⟩⟩⟩⟩⟩⟩⟩
theorem lw_p80 : lw_okq (⟨"CapitalCaseModel", "lawTells", "(II)I"⟩, 70) := ⟨⟨by decide +kernel, by decide +kernel⟩, List.mem_of_getElem? (i := 1148) (by decide +kernel), List.mem_of_getElem? (i := 1554) (by decide +kernel), List.mem_of_getElem? (i := 1555) (by decide +kernel)⟩
theorem lw_p81 : lw_okq (⟨"CapitalCaseModel", "termOf", "(II)I"⟩, 70) := ⟨⟨by decide +kernel, by decide +kernel⟩, List.mem_of_getElem? (i := 1148) (by decide +kernel), List.mem_of_getElem? (i := 1558) (by decide +kernel), List.mem_of_getElem? (i := 1559) (by decide +kernel)⟩
theorem lw_p82 : lw_okq (⟨"CapitalCaseModel", "isVerse", "(I)Z"⟩, 70) := ⟨⟨by decide +kernel, by decide +kernel⟩, List.mem_of_getElem? (i := 1148) (by decide +kernel), List.mem_of_getElem? (i := 1569) (by decide +kernel), List.mem_of_getElem? (i := 1570) (by decide +kernel)⟩
theorem lw_p83 : lw_okq (⟨"CapitalCaseModel", "paysOf", "(I)I"⟩, 70) := ⟨⟨by decide +kernel, by decide +kernel⟩, List.mem_of_getElem? (i := 1148) (by decide +kernel), List.mem_of_getElem? (i := 1573) (by decide +kernel), List.mem_of_getElem? (i := 1574) (by decide +kernel)⟩
theorem lw_p84 : lw_okq (⟨"CapitalCaseModel", "looksFor", "(I)V"⟩, 70) := ⟨⟨by decide +kernel, by decide +kernel⟩, List.mem_of_getElem? (i := 1148) (by decide +kernel), List.mem_of_getElem? (i := 1577) (by decide +kernel), List.mem_of_getElem? (i := 1578) (by decide +kernel)⟩
theorem lw_p85 : lw_okq (⟨"CapitalCaseModel", "rankOf", "(III)I"⟩, 70) := ⟨⟨by decide +kernel, by decide +kernel⟩, List.mem_of_getElem? (i := 1148) (by decide +kernel), List.mem_of_getElem? (i := 1590) (by decide +kernel), List.mem_of_getElem? (i := 1591) (by decide +kernel)⟩
theorem lw_p86 : lw_okq (⟨"CapitalCaseModel", "givesLeave", "(III)Z"⟩, 70) := ⟨⟨by decide +kernel, by decide +kernel⟩, List.mem_of_getElem? (i := 1148) (by decide +kernel), List.mem_of_getElem? (i := 1594) (by decide +kernel), List.mem_of_getElem? (i := 1595) (by decide +kernel)⟩
theorem lw_p87 : lw_okq (⟨"CapitalCaseModel", "isOpen", "(I)Z"⟩, 70) := ⟨⟨by decide +kernel, by decide +kernel⟩, List.mem_of_getElem? (i := 1148) (by decide +kernel), List.mem_of_getElem? (i := 1602) (by decide +kernel), List.mem_of_getElem? (i := 1603) (by decide +kernel)⟩
theorem lw_p88 : lw_okq (⟨"CapitalCaseModel", "sets", "(I)Z"⟩, 70) := ⟨⟨by decide +kernel, by decide +kernel⟩, List.mem_of_getElem? (i := 1148) (by decide +kernel), List.mem_of_getElem? (i := 1606) (by decide +kernel), List.mem_of_getElem? (i := 1607) (by decide +kernel)⟩
theorem lw_p89 : lw_okq (⟨"CapitalCaseModel", "giverOf", "(II)I"⟩, 70) := ⟨⟨by decide +kernel, by decide +kernel⟩, List.mem_of_getElem? (i := 1148) (by decide +kernel), List.mem_of_getElem? (i := 1610) (by decide +kernel), List.mem_of_getElem? (i := 1611) (by decide +kernel)⟩
theorem lw_p90 : lw_okq (⟨"CapitalCaseModel", "clears", "(I)V"⟩, 70) := ⟨⟨by decide +kernel, by decide +kernel⟩, List.mem_of_getElem? (i := 1148) (by decide +kernel), List.mem_of_getElem? (i := 1614) (by decide +kernel), List.mem_of_getElem? (i := 1615) (by decide +kernel)⟩
theorem lw_p91 : lw_okq (⟨"CapitalCaseModel", "records", "()V"⟩, 70) := ⟨⟨by decide +kernel, by decide +kernel⟩, List.mem_of_getElem? (i := 1148) (by decide +kernel), List.mem_of_getElem? (i := 1618) (by decide +kernel), List.mem_of_getElem? (i := 1619) (by decide +kernel)⟩
theorem lw_p92 : lw_okq (⟨"CapitalCaseModel", "areTwo", "(III)Z"⟩, 70) := ⟨⟨by decide +kernel, by decide +kernel⟩, List.mem_of_getElem? (i := 1148) (by decide +kernel), List.mem_of_getElem? (i := 1630) (by decide +kernel), List.mem_of_getElem? (i := 1631) (by decide +kernel)⟩
theorem lw_p93 : lw_okq (⟨"CapitalCaseModel", "goes", "(I)V"⟩, 70) := ⟨⟨by decide +kernel, by decide +kernel⟩, List.mem_of_getElem? (i := 1148) (by decide +kernel), List.mem_of_getElem? (i := 1645) (by decide +kernel), List.mem_of_getElem? (i := 1646) (by decide +kernel)⟩
theorem lw_p94 : lw_okq (⟨"CapitalCaseModel", "dayGoes", "()V"⟩, 70) := ⟨⟨by decide +kernel, by decide +kernel⟩, List.mem_of_getElem? (i := 1148) (by decide +kernel), List.mem_of_getElem? (i := 1649) (by decide +kernel), List.mem_of_getElem? (i := 1650) (by decide +kernel)⟩
theorem lw_p95 : lw_okq (⟨"CapitalCaseModel", "wears", "(I)V"⟩, 70) := ⟨⟨by decide +kernel, by decide +kernel⟩, List.mem_of_getElem? (i := 1148) (by decide +kernel), List.mem_of_getElem? (i := 1653) (by decide +kernel), List.mem_of_getElem? (i := 1654) (by decide +kernel)⟩
def lw_privs_6 : List (MethodName × Nat) := [(⟨"CapitalCaseModel", "lawTells", "(II)I"⟩, 70), (⟨"CapitalCaseModel", "termOf", "(II)I"⟩, 70), (⟨"CapitalCaseModel", "isVerse", "(I)Z"⟩, 70), (⟨"CapitalCaseModel", "paysOf", "(I)I"⟩, 70), (⟨"CapitalCaseModel", "looksFor", "(I)V"⟩, 70), (⟨"CapitalCaseModel", "rankOf", "(III)I"⟩, 70), (⟨"CapitalCaseModel", "givesLeave", "(III)Z"⟩, 70), (⟨"CapitalCaseModel", "isOpen", "(I)Z"⟩, 70), (⟨"CapitalCaseModel", "sets", "(I)Z"⟩, 70), (⟨"CapitalCaseModel", "giverOf", "(II)I"⟩, 70), (⟨"CapitalCaseModel", "clears", "(I)V"⟩, 70), (⟨"CapitalCaseModel", "records", "()V"⟩, 70), (⟨"CapitalCaseModel", "areTwo", "(III)Z"⟩, 70), (⟨"CapitalCaseModel", "goes", "(I)V"⟩, 70), (⟨"CapitalCaseModel", "dayGoes", "()V"⟩, 70), (⟨"CapitalCaseModel", "wears", "(I)V"⟩, 70)]
theorem lw_r6 : ∀ q ∈ lw_privs_6, lw_okq q := List.forall_mem_cons.mpr ⟨lw_p80, List.forall_mem_cons.mpr ⟨lw_p81, List.forall_mem_cons.mpr ⟨lw_p82, List.forall_mem_cons.mpr ⟨lw_p83, List.forall_mem_cons.mpr ⟨lw_p84, List.forall_mem_cons.mpr ⟨lw_p85, List.forall_mem_cons.mpr ⟨lw_p86, List.forall_mem_cons.mpr ⟨lw_p87, List.forall_mem_cons.mpr ⟨lw_p88, List.forall_mem_cons.mpr ⟨lw_p89, List.forall_mem_cons.mpr ⟨lw_p90, List.forall_mem_cons.mpr ⟨lw_p91, List.forall_mem_cons.mpr ⟨lw_p92, List.forall_mem_cons.mpr ⟨lw_p93, List.forall_mem_cons.mpr ⟨lw_p94, List.forall_mem_cons.mpr ⟨lw_p95, fun _ h => absurd h List.not_mem_nil⟩⟩⟩⟩⟩⟩⟩⟩⟩⟩⟩⟩⟩⟩⟩⟩
theorem lw_p96 : lw_okq (⟨"CapitalCaseModel", "areThieves", "()Z"⟩, 70) := ⟨⟨by decide +kernel, by decide +kernel⟩, List.mem_of_getElem? (i := 1148) (by decide +kernel), List.mem_of_getElem? (i := 1657) (by decide +kernel), List.mem_of_getElem? (i := 1658) (by decide +kernel)⟩
theorem lw_p97 : lw_okq (⟨"CapitalCaseModel", "lotOf", "(II)I"⟩, 70) := ⟨⟨by decide +kernel, by decide +kernel⟩, List.mem_of_getElem? (i := 1148) (by decide +kernel), List.mem_of_getElem? (i := 1661) (by decide +kernel), List.mem_of_getElem? (i := 1662) (by decide +kernel)⟩
theorem lw_p98 : lw_okq (⟨"CapitalCaseModel", "thievesCome", "()V"⟩, 70) := ⟨⟨by decide +kernel, by decide +kernel⟩, List.mem_of_getElem? (i := 1148) (by decide +kernel), List.mem_of_getElem? (i := 1669) (by decide +kernel), List.mem_of_getElem? (i := 1670) (by decide +kernel)⟩
theorem lw_p99 : lw_okq (⟨"CapitalCaseModel", "findsBest", "()V"⟩, 70) := ⟨⟨by decide +kernel, by decide +kernel⟩, List.mem_of_getElem? (i := 1148) (by decide +kernel), List.mem_of_getElem? (i := 1685) (by decide +kernel), List.mem_of_getElem? (i := 1686) (by decide +kernel)⟩
theorem lw_p100 : lw_okq (⟨"CapitalCaseModel", "openBits", "()I"⟩, 70) := ⟨⟨by decide +kernel, by decide +kernel⟩, List.mem_of_getElem? (i := 1148) (by decide +kernel), List.mem_of_getElem? (i := 1689) (by decide +kernel), List.mem_of_getElem? (i := 1690) (by decide +kernel)⟩
theorem lw_p101 : lw_okq (⟨"CapitalCaseModel", "keepsAhead", "()V"⟩, 70) := ⟨⟨by decide +kernel, by decide +kernel⟩, List.mem_of_getElem? (i := 1148) (by decide +kernel), List.mem_of_getElem? (i := 1693) (by decide +kernel), List.mem_of_getElem? (i := 1694) (by decide +kernel)⟩
theorem lw_p102 : lw_okq (⟨"CapitalCaseModel", "canSet", "(I)Z"⟩, 70) := ⟨⟨by decide +kernel, by decide +kernel⟩, List.mem_of_getElem? (i := 1148) (by decide +kernel), List.mem_of_getElem? (i := 1697) (by decide +kernel), List.mem_of_getElem? (i := 1698) (by decide +kernel)⟩
theorem lw_p103 : lw_okq (⟨"CapitalCaseModel", "firstDay", "(I)I"⟩, 70) := ⟨⟨by decide +kernel, by decide +kernel⟩, List.mem_of_getElem? (i := 1148) (by decide +kernel), List.mem_of_getElem? (i := 1713) (by decide +kernel), List.mem_of_getElem? (i := 1714) (by decide +kernel)⟩
theorem lw_p104 : lw_okq (⟨"CapitalCaseModel", "needsOf", "(II)I"⟩, 70) := ⟨⟨by decide +kernel, by decide +kernel⟩, List.mem_of_getElem? (i := 1148) (by decide +kernel), List.mem_of_getElem? (i := 1721) (by decide +kernel), List.mem_of_getElem? (i := 1722) (by decide +kernel)⟩
theorem lw_p105 : lw_okq (⟨"CapitalCaseModel", "isBargain", "(IIII)Z"⟩, 70) := ⟨⟨by decide +kernel, by decide +kernel⟩, List.mem_of_getElem? (i := 1148) (by decide +kernel), List.mem_of_getElem? (i := 1729) (by decide +kernel), List.mem_of_getElem? (i := 1730) (by decide +kernel)⟩
theorem lw_p106 : lw_okq (⟨"CapitalCaseModel", "ownVerses", "(III)I"⟩, 70) := ⟨⟨by decide +kernel, by decide +kernel⟩, List.mem_of_getElem? (i := 1148) (by decide +kernel), List.mem_of_getElem? (i := 1733) (by decide +kernel), List.mem_of_getElem? (i := 1734) (by decide +kernel)⟩
theorem lw_p107 : lw_okq (⟨"CapitalCaseModel", "whoseBits", "(I)I"⟩, 70) := ⟨⟨by decide +kernel, by decide +kernel⟩, List.mem_of_getElem? (i := 1148) (by decide +kernel), List.mem_of_getElem? (i := 1777) (by decide +kernel), List.mem_of_getElem? (i := 1778) (by decide +kernel)⟩
theorem lw_p108 : lw_okq (⟨"CapitalCaseModel", "versesSo", "(II)I"⟩, 70) := ⟨⟨by decide +kernel, by decide +kernel⟩, List.mem_of_getElem? (i := 1148) (by decide +kernel), List.mem_of_getElem? (i := 1800) (by decide +kernel), List.mem_of_getElem? (i := 1801) (by decide +kernel)⟩
theorem lw_p109 : lw_okq (⟨"CapitalCaseModel", "sumNow", "(II)I"⟩, 70) := ⟨⟨by decide +kernel, by decide +kernel⟩, List.mem_of_getElem? (i := 1148) (by decide +kernel), List.mem_of_getElem? (i := 1804) (by decide +kernel), List.mem_of_getElem? (i := 1805) (by decide +kernel)⟩
def lw_privs_7 : List (MethodName × Nat) := [(⟨"CapitalCaseModel", "areThieves", "()Z"⟩, 70), (⟨"CapitalCaseModel", "lotOf", "(II)I"⟩, 70), (⟨"CapitalCaseModel", "thievesCome", "()V"⟩, 70), (⟨"CapitalCaseModel", "findsBest", "()V"⟩, 70), (⟨"CapitalCaseModel", "openBits", "()I"⟩, 70), (⟨"CapitalCaseModel", "keepsAhead", "()V"⟩, 70), (⟨"CapitalCaseModel", "canSet", "(I)Z"⟩, 70), (⟨"CapitalCaseModel", "firstDay", "(I)I"⟩, 70), (⟨"CapitalCaseModel", "needsOf", "(II)I"⟩, 70), (⟨"CapitalCaseModel", "isBargain", "(IIII)Z"⟩, 70), (⟨"CapitalCaseModel", "ownVerses", "(III)I"⟩, 70), (⟨"CapitalCaseModel", "whoseBits", "(I)I"⟩, 70), (⟨"CapitalCaseModel", "versesSo", "(II)I"⟩, 70), (⟨"CapitalCaseModel", "sumNow", "(II)I"⟩, 70)]
theorem lw_r7 : ∀ q ∈ lw_privs_7, lw_okq q := List.forall_mem_cons.mpr ⟨lw_p96, List.forall_mem_cons.mpr ⟨lw_p97, List.forall_mem_cons.mpr ⟨lw_p98, List.forall_mem_cons.mpr ⟨lw_p99, List.forall_mem_cons.mpr ⟨lw_p100, List.forall_mem_cons.mpr ⟨lw_p101, List.forall_mem_cons.mpr ⟨lw_p102, List.forall_mem_cons.mpr ⟨lw_p103, List.forall_mem_cons.mpr ⟨lw_p104, List.forall_mem_cons.mpr ⟨lw_p105, List.forall_mem_cons.mpr ⟨lw_p106, List.forall_mem_cons.mpr ⟨lw_p107, List.forall_mem_cons.mpr ⟨lw_p108, List.forall_mem_cons.mpr ⟨lw_p109, fun _ h => absurd h List.not_mem_nil⟩⟩⟩⟩⟩⟩⟩⟩⟩⟩⟩⟩⟩⟩
def lw_privs : List (MethodName × Nat) := lw_privs_1 ++ (lw_privs_2 ++ (lw_privs_3 ++ (lw_privs_4 ++ (lw_privs_5 ++ (lw_privs_6 ++ (lw_privs_7))))))
def lw_tbl : List Cond := k2_sels lw_privs ++ tables_1
theorem lw_privs_ok : ∀ q ∈ lw_privs, lw_okq q := by
  show ∀ q ∈ lw_privs_1 ++ (lw_privs_2 ++ (lw_privs_3 ++ (lw_privs_4 ++ (lw_privs_5 ++ (lw_privs_6 ++ (lw_privs_7)))))), lw_okq q
  exact List.forall_mem_append.mpr ⟨lw_r1, List.forall_mem_append.mpr ⟨lw_r2, List.forall_mem_append.mpr ⟨lw_r3, List.forall_mem_append.mpr ⟨lw_r4, List.forall_mem_append.mpr ⟨lw_r5, List.forall_mem_append.mpr ⟨lw_r6, lw_r7⟩⟩⟩⟩⟩⟩
end
section
theorem goodIn_r {big : List Cond} (ws : List Cond) (ps : List Nat) (hp : ws = ps.filterMap (fun i => big[i]?)) (h : ws.all goodWord = true) : GoodIn big ws := by
  intro w hw
  have h1 := List.all_eq_true.mp h w hw
  rw [hp] at hw
  obtain ⟨i, -, hi⟩ := List.mem_filterMap.mp hw
  have hm : w ∈ big := by first | exact List.mem_of_getElem? hi | exact List.getElem?_mem hi
  exact ⟨hm, good_of_word h1⟩
def RX0 : String := "CapitalCase$History"
def TX0 : u_T := fun k => match k with
  | 0 => ("CapitalCase$History", "rows", "[LCapitalCase$Town;", true)
  | 1 => ("CapitalCase$History", "next", "I", false)
  | _ => ("CapitalCase$History", "count", "I", false)
def tyX0 : Nat → FieldType := fun k => match k with
  | 0 => .array (.object "CapitalCase$Town")
  | 1 => .int
  | _ => .int
theorem nmX0 : ∀ a, a < 3 → ∀ b, b < 3 → a ≠ b → (TX0 a).2.1 ≠ (TX0 b).2.1 := by decide +kernel
theorem tyX0_ok : ∀ k, k < 3 → parseFieldDescriptor (TX0 k).2.2.1 = some (tyX0 k) := by decide +kernel
theorem inX0 : ∀ w ∈ u_ws RX0 TX0 3, w ∈ lw_tbl := fun w h => (goodIn_r (big := lw_tbl) (u_ws RX0 TX0 3) [388, 390, 392] (by decide +kernel) (by decide +kernel) w h).1
def RX1 : String := "CapitalCase$Judge"
def TX1 : u_T := fun k => match k with
  | 0 => ("CapitalCase$Judge", "script", "LCapitalCase$Script;", true)
  | 1 => ("CapitalCase$Judge", "vars", "[I", true)
  | _ => ("CapitalCase$Judge", "stack", "[I", true)
def tyX1 : Nat → FieldType := fun k => match k with
  | 0 => .object "CapitalCase$Script"
  | 1 => .array .int
  | _ => .array .int
theorem nmX1 : ∀ a, a < 3 → ∀ b, b < 3 → a ≠ b → (TX1 a).2.1 ≠ (TX1 b).2.1 := by decide +kernel
theorem tyX1_ok : ∀ k, k < 3 → parseFieldDescriptor (TX1 k).2.2.1 = some (tyX1 k) := by decide +kernel
theorem inX1 : ∀ w ∈ u_ws RX1 TX1 3, w ∈ lw_tbl := fun w h => (goodIn_r (big := lw_tbl) (u_ws RX1 TX1 3) [425, 427, 429] (by decide +kernel) (by decide +kernel) w h).1
def RX2 : String := "CapitalCase$Parser"
def TX2 : u_T := fun k => match k with
  | 0 => ("CapitalCase$Parser", "script", "LCapitalCase$Script;", true)
  | 1 => ("CapitalCase$Parser", "tokens", "LCapitalCase$Tokens;", true)
  | 2 => ("CapitalCase$Parser", "text", "[B", true)
  | 3 => ("CapitalCase$Parser", "at", "I", false)
  | 4 => ("CapitalCase$Parser", "fault", "I", false)
  | 5 => ("CapitalCase$Parser", "faultAt", "I", false)
  | 6 => ("CapitalCase$Parser", "laterFault", "I", false)
  | 7 => ("CapitalCase$Parser", "laterFaultAt", "I", false)
  | 8 => ("CapitalCase$Parser", "names", "[I", true)
  | _ => ("CapitalCase$Parser", "nameCount", "I", false)
def tyX2 : Nat → FieldType := fun k => match k with
  | 0 => .object "CapitalCase$Script"
  | 1 => .object "CapitalCase$Tokens"
  | 2 => .array .byte
  | 3 => .int
  | 4 => .int
  | 5 => .int
  | 6 => .int
  | 7 => .int
  | 8 => .array .int
  | _ => .int
theorem nmX2 : ∀ a, a < 10 → ∀ b, b < 10 → a ≠ b → (TX2 a).2.1 ≠ (TX2 b).2.1 := by decide +kernel
theorem tyX2_ok : ∀ k, k < 10 → parseFieldDescriptor (TX2 k).2.2.1 = some (tyX2 k) := by decide +kernel
theorem inX2 : ∀ w ∈ u_ws RX2 TX2 10, w ∈ lw_tbl := fun w h => (goodIn_r (big := lw_tbl) (u_ws RX2 TX2 10) [293, 295, 297, 299, 301, 303, 305, 307, 309, 311] (by decide +kernel) (by decide +kernel) w h).1
def RX3 : String := "CapitalCase$Planner"
def TX3 : u_T := fun k => match k with
  | 0 => ("CapitalCase$Planner", "script", "LCapitalCase$Script;", true)
  | 1 => ("CapitalCase$Planner", "judge", "LCapitalCase$Judge;", true)
  | 2 => ("CapitalCase$Planner", "free", "[I", true)
  | 3 => ("CapitalCase$Planner", "picks", "[I", true)
  | 4 => ("CapitalCase$Planner", "pays", "[I", true)
  | 5 => ("CapitalCase$Planner", "clashes", "I", false)
  | 6 => ("CapitalCase$Planner", "most", "I", false)
  | 7 => ("CapitalCase$Planner", "mask", "I", false)
  | 8 => ("CapitalCase$Planner", "looked", "I", false)
  | 9 => ("CapitalCase$Planner", "givers", "[I", true)
  | 10 => ("CapitalCase$Planner", "ranks", "[I", true)
  | _ => ("CapitalCase$Planner", "giverCount", "[I", true)
def tyX3 : Nat → FieldType := fun k => match k with
  | 0 => .object "CapitalCase$Script"
  | 1 => .object "CapitalCase$Judge"
  | 2 => .array .int
  | 3 => .array .int
  | 4 => .array .int
  | 5 => .int
  | 6 => .int
  | 7 => .int
  | 8 => .int
  | 9 => .array .int
  | 10 => .array .int
  | _ => .array .int
theorem nmX3 : ∀ a, a < 12 → ∀ b, b < 12 → a ≠ b → (TX3 a).2.1 ≠ (TX3 b).2.1 := by decide +kernel
theorem tyX3_ok : ∀ k, k < 12 → parseFieldDescriptor (TX3 k).2.2.1 = some (tyX3 k) := by decide +kernel
theorem inX3 : ∀ w ∈ u_ws RX3 TX3 12, w ∈ lw_tbl := fun w h => (goodIn_r (big := lw_tbl) (u_ws RX3 TX3 12) [470, 472, 474, 476, 478, 480, 482, 484, 486, 488, 490, 492] (by decide +kernel) (by decide +kernel) w h).1
def RX4 : String := "CapitalCase$Press"
def TX4 : u_T := fun k => match k with
  | 0 => ("CapitalCase$Press", "script", "LCapitalCase$Script;", true)
  | _ => ("CapitalCase$Press", "judge", "LCapitalCase$Judge;", true)
def tyX4 : Nat → FieldType := fun k => match k with
  | 0 => .object "CapitalCase$Script"
  | _ => .object "CapitalCase$Judge"
theorem nmX4 : ∀ a, a < 2 → ∀ b, b < 2 → a ≠ b → (TX4 a).2.1 ≠ (TX4 b).2.1 := by decide +kernel
theorem tyX4_ok : ∀ k, k < 2 → parseFieldDescriptor (TX4 k).2.2.1 = some (tyX4 k) := by decide +kernel
theorem inX4 : ∀ w ∈ u_ws RX4 TX4 2, w ∈ lw_tbl := fun w h => (goodIn_r (big := lw_tbl) (u_ws RX4 TX4 2) [440, 442] (by decide +kernel) (by decide +kernel) w h).1
def RX5 : String := "CapitalCase$Prints"
def TX5 : u_T := fun k => match k with
  | 0 => ("CapitalCase$Prints", "letters", "[I", true)
  | 1 => ("CapitalCase$Prints", "wears", "[I", true)
  | 2 => ("CapitalCase$Prints", "sos", "[Z", true)
  | _ => ("CapitalCase$Prints", "count", "I", false)
def tyX5 : Nat → FieldType := fun k => match k with
  | 0 => .array .int
  | 1 => .array .int
  | 2 => .array .boolean
  | _ => .int
theorem nmX5 : ∀ a, a < 4 → ∀ b, b < 4 → a ≠ b → (TX5 a).2.1 ≠ (TX5 b).2.1 := by decide +kernel
theorem tyX5_ok : ∀ k, k < 4 → parseFieldDescriptor (TX5 k).2.2.1 = some (tyX5 k) := by decide +kernel
theorem inX5 : ∀ w ∈ u_ws RX5 TX5 4, w ∈ lw_tbl := fun w h => (goodIn_r (big := lw_tbl) (u_ws RX5 TX5 4) [406, 408, 410, 412] (by decide +kernel) (by decide +kernel) w h).1
def RX6 : String := "CapitalCase$Script"
def TX6 : u_T := fun k => match k with
  | 0 => ("CapitalCase$Script", "houses", "I", false)
  | 1 => ("CapitalCase$Script", "verses", "I", false)
  | 2 => ("CapitalCase$Script", "spoils", "I", false)
  | 3 => ("CapitalCase$Script", "thieves", "I", false)
  | 4 => ("CapitalCase$Script", "seed", "I", false)
  | 5 => ("CapitalCase$Script", "pieces", "[I", true)
  | 6 => ("CapitalCase$Script", "value", "[I", true)
  | 7 => ("CapitalCase$Script", "due", "[I", true)
  | 8 => ("CapitalCase$Script", "wide", "[I", true)
  | 9 => ("CapitalCase$Script", "wanted", "[I", true)
  | 10 => ("CapitalCase$Script", "needs", "[I", true)
  | 11 => ("CapitalCase$Script", "lawStart", "[I", true)
  | 12 => ("CapitalCase$Script", "step", "[I", true)
  | 13 => ("CapitalCase$Script", "operand", "[I", true)
  | _ => ("CapitalCase$Script", "steps", "I", false)
def tyX6 : Nat → FieldType := fun k => match k with
  | 0 => .int
  | 1 => .int
  | 2 => .int
  | 3 => .int
  | 4 => .int
  | 5 => .array .int
  | 6 => .array .int
  | 7 => .array .int
  | 8 => .array .int
  | 9 => .array .int
  | 10 => .array .int
  | 11 => .array .int
  | 12 => .array .int
  | 13 => .array .int
  | _ => .int
theorem nmX6 : ∀ a, a < 15 → ∀ b, b < 15 → a ≠ b → (TX6 a).2.1 ≠ (TX6 b).2.1 := by decide +kernel
theorem tyX6_ok : ∀ k, k < 15 → parseFieldDescriptor (TX6 k).2.2.1 = some (tyX6 k) := by decide +kernel
theorem inX6 : ∀ w ∈ u_ws RX6 TX6 15, w ∈ lw_tbl := fun w h => (goodIn_r (big := lw_tbl) (u_ws RX6 TX6 15) [221, 223, 225, 227, 229, 231, 233, 235, 237, 239, 241, 243, 245, 247, 249] (by decide +kernel) (by decide +kernel) w h).1
def RX7 : String := "CapitalCase$Tokens"
def TX7 : u_T := fun k => match k with
  | 0 => ("CapitalCase$Tokens", "kind", "[I", true)
  | 1 => ("CapitalCase$Tokens", "place", "[I", true)
  | _ => ("CapitalCase$Tokens", "size", "[I", true)
def tyX7 : Nat → FieldType := fun k => match k with
  | 0 => .array .int
  | 1 => .array .int
  | _ => .array .int
theorem nmX7 : ∀ a, a < 3 → ∀ b, b < 3 → a ≠ b → (TX7 a).2.1 ≠ (TX7 b).2.1 := by decide +kernel
theorem tyX7_ok : ∀ k, k < 3 → parseFieldDescriptor (TX7 k).2.2.1 = some (tyX7 k) := by decide +kernel
theorem inX7 : ∀ w ∈ u_ws RX7 TX7 3, w ∈ lw_tbl := fun w h => (goodIn_r (big := lw_tbl) (u_ws RX7 TX7 3) [274, 276, 278] (by decide +kernel) (by decide +kernel) w h).1
def RX8 : String := "CapitalCase$Town"
def TX8 : u_T := fun k => match k with
  | 0 => ("CapitalCase$Town", "has", "[I", true)
  | 1 => ("CapitalCase$Town", "used", "[I", true)
  | 2 => ("CapitalCase$Town", "worn", "[I", true)
  | 3 => ("CapitalCase$Town", "lent", "[I", true)
  | 4 => ("CapitalCase$Town", "from", "[I", true)
  | 5 => ("CapitalCase$Town", "set", "I", false)
  | 6 => ("CapitalCase$Town", "done", "I", false)
  | 7 => ("CapitalCase$Town", "day", "I", false)
  | 8 => ("CapitalCase$Town", "paid", "I", false)
  | _ => ("CapitalCase$Town", "gone", "I", false)
def tyX8 : Nat → FieldType := fun k => match k with
  | 0 => .array .int
  | 1 => .array .int
  | 2 => .array .int
  | 3 => .array .int
  | 4 => .array .int
  | 5 => .int
  | 6 => .int
  | 7 => .int
  | 8 => .int
  | _ => .int
theorem nmX8 : ∀ a, a < 10 → ∀ b, b < 10 → a ≠ b → (TX8 a).2.1 ≠ (TX8 b).2.1 := by decide +kernel
theorem tyX8_ok : ∀ k, k < 10 → parseFieldDescriptor (TX8 k).2.2.1 = some (tyX8 k) := by decide +kernel
theorem inX8 : ∀ w ∈ u_ws RX8 TX8 10, w ∈ lw_tbl := fun w h => (goodIn_r (big := lw_tbl) (u_ws RX8 TX8 10) [355, 357, 359, 361, 363, 365, 367, 369, 371, 373] (by decide +kernel) (by decide +kernel) w h).1
def RX9 : String := "CapitalCase$Trade"
def TX9 : u_T := fun k => match k with
  | 0 => ("CapitalCase$Trade", "script", "LCapitalCase$Script;", true)
  | 1 => ("CapitalCase$Trade", "bargains", "I", false)
  | _ => ("CapitalCase$Trade", "first", "I", false)
def tyX9 : Nat → FieldType := fun k => match k with
  | 0 => .object "CapitalCase$Script"
  | 1 => .int
  | _ => .int
theorem nmX9 : ∀ a, a < 3 → ∀ b, b < 3 → a ≠ b → (TX9 a).2.1 ≠ (TX9 b).2.1 := by decide +kernel
theorem tyX9_ok : ∀ k, k < 3 → parseFieldDescriptor (TX9 k).2.2.1 = some (tyX9 k) := by decide +kernel
theorem inX9 : ∀ w ∈ u_ws RX9 TX9 3, w ∈ lw_tbl := fun w h => (goodIn_r (big := lw_tbl) (u_ws RX9 TX9 3) [546, 548, 550] (by decide +kernel) (by decide +kernel) w h).1
def RX10 : String := "CapitalCase$TwoDays"
def TX10 : u_T := fun k => match k with
  | 0 => ("CapitalCase$TwoDays", "script", "LCapitalCase$Script;", true)
  | 1 => ("CapitalCase$TwoDays", "judge", "LCapitalCase$Judge;", true)
  | 2 => ("CapitalCase$TwoDays", "press", "LCapitalCase$Press;", true)
  | 3 => ("CapitalCase$TwoDays", "first", "LCapitalCase$Planner;", true)
  | 4 => ("CapitalCase$TwoDays", "second", "LCapitalCase$Planner;", true)
  | 5 => ("CapitalCase$TwoDays", "after", "LCapitalCase$Town;", true)
  | 6 => ("CapitalCase$TwoDays", "most", "I", false)
  | 7 => ("CapitalCase$TwoDays", "mask", "I", false)
  | _ => ("CapitalCase$TwoDays", "paysLater", "[I", true)
def tyX10 : Nat → FieldType := fun k => match k with
  | 0 => .object "CapitalCase$Script"
  | 1 => .object "CapitalCase$Judge"
  | 2 => .object "CapitalCase$Press"
  | 3 => .object "CapitalCase$Planner"
  | 4 => .object "CapitalCase$Planner"
  | 5 => .object "CapitalCase$Town"
  | 6 => .int
  | 7 => .int
  | _ => .array .int
theorem nmX10 : ∀ a, a < 9 → ∀ b, b < 9 → a ≠ b → (TX10 a).2.1 ≠ (TX10 b).2.1 := by decide +kernel
theorem tyX10_ok : ∀ k, k < 9 → parseFieldDescriptor (TX10 k).2.2.1 = some (tyX10 k) := by decide +kernel
theorem inX10 : ∀ w ∈ u_ws RX10 TX10 9, w ∈ lw_tbl := fun w h => (goodIn_r (big := lw_tbl) (u_ws RX10 TX10 9) [516, 518, 520, 522, 524, 526, 528, 530, 532] (by decide +kernel) (by decide +kernel) w h).1
def RX11 : String := "CapitalCase"
def TX11 : u_T := fun k => match k with
  | 0 => ("CapitalCase", "tape", "[B", true)
  | 1 => ("CapitalCase", "tapeSize", "I", false)
  | 2 => ("CapitalCase", "faultPlace", "I", false)
  | 3 => ("CapitalCase", "script", "LCapitalCase$Script;", true)
  | 4 => ("CapitalCase", "parser", "LCapitalCase$Parser;", true)
  | 5 => ("CapitalCase", "town", "LCapitalCase$Town;", true)
  | 6 => ("CapitalCase", "scratch", "LCapitalCase$Town;", true)
  | 7 => ("CapitalCase", "history", "LCapitalCase$History;", true)
  | 8 => ("CapitalCase", "slots", "[LCapitalCase$Town;", true)
  | 9 => ("CapitalCase", "held", "[Z", true)
  | 10 => ("CapitalCase", "prints", "LCapitalCase$Prints;", true)
  | 11 => ("CapitalCase", "judge", "LCapitalCase$Judge;", true)
  | 12 => ("CapitalCase", "press", "LCapitalCase$Press;", true)
  | 13 => ("CapitalCase", "planner", "LCapitalCase$Planner;", true)
  | 14 => ("CapitalCase", "pairOfDays", "LCapitalCase$TwoDays;", true)
  | _ => ("CapitalCase", "trade", "LCapitalCase$Trade;", true)
def tyX11 : Nat → FieldType := fun k => match k with
  | 0 => .array .byte
  | 1 => .int
  | 2 => .int
  | 3 => .object "CapitalCase$Script"
  | 4 => .object "CapitalCase$Parser"
  | 5 => .object "CapitalCase$Town"
  | 6 => .object "CapitalCase$Town"
  | 7 => .object "CapitalCase$History"
  | 8 => .array (.object "CapitalCase$Town")
  | 9 => .array .boolean
  | 10 => .object "CapitalCase$Prints"
  | 11 => .object "CapitalCase$Judge"
  | 12 => .object "CapitalCase$Press"
  | 13 => .object "CapitalCase$Planner"
  | 14 => .object "CapitalCase$TwoDays"
  | _ => .object "CapitalCase$Trade"
theorem nmX11 : ∀ a, a < 16 → ∀ b, b < 16 → a ≠ b → (TX11 a).2.1 ≠ (TX11 b).2.1 := by decide +kernel
theorem tyX11_ok : ∀ k, k < 16 → parseFieldDescriptor (TX11 k).2.2.1 = some (tyX11 k) := by decide +kernel
theorem inX11 : ∀ w ∈ u_ws RX11 TX11 16, w ∈ lw_tbl := fun w h => (goodIn_r (big := lw_tbl) (u_ws RX11 TX11 16) [569, 571, 573, 575, 577, 579, 581, 583, 585, 587, 589, 591, 593, 595, 597, 599] (by decide +kernel) (by decide +kernel) w h).1
def RX12 : String := "CapitalCaseModel"
def TX12 : u_T := fun k => match k with
  | 0 => ("CapitalCaseModel", "thrown", "I", false)
  | 1 => ("CapitalCaseModel", "tape", "[B", true)
  | 2 => ("CapitalCaseModel", "taped", "I", false)
  | 3 => ("CapitalCaseModel", "text", "[B", true)
  | 4 => ("CapitalCaseModel", "size", "I", false)
  | 5 => ("CapitalCaseModel", "tKind", "[I", true)
  | 6 => ("CapitalCaseModel", "tPlace", "[I", true)
  | 7 => ("CapitalCaseModel", "tValue", "[I", true)
  | 8 => ("CapitalCaseModel", "tName", "[J", true)
  | 9 => ("CapitalCaseModel", "keys", "[J", true)
  | 10 => ("CapitalCaseModel", "tokens", "I", false)
  | 11 => ("CapitalCaseModel", "t", "I", false)
  | 12 => ("CapitalCaseModel", "open", "I", false)
  | 13 => ("CapitalCaseModel", "fault", "I", false)
  | 14 => ("CapitalCaseModel", "faultPlace", "I", false)
  | 15 => ("CapitalCaseModel", "worst", "I", false)
  | 16 => ("CapitalCaseModel", "worstPlace", "I", false)
  | 17 => ("CapitalCaseModel", "place", "I", false)
  | 18 => ("CapitalCaseModel", "live", "I", false)
  | 19 => ("CapitalCaseModel", "side", "I", false)
  | 20 => ("CapitalCaseModel", "names", "I", false)
  | 21 => ("CapitalCaseModel", "nameOf", "[J", true)
  | 22 => ("CapitalCaseModel", "houses", "[I", true)
  | 23 => ("CapitalCaseModel", "piecesTold", "[I", true)
  | 24 => ("CapitalCaseModel", "verses", "[I", true)
  | 25 => ("CapitalCaseModel", "longOf", "[I", true)
  | 26 => ("CapitalCaseModel", "wantsOf", "[I", true)
  | 27 => ("CapitalCaseModel", "valueOf", "[I", true)
  | 28 => ("CapitalCaseModel", "dueOf", "[I", true)
  | 29 => ("CapitalCaseModel", "spoils", "[I", true)
  | 30 => ("CapitalCaseModel", "thieves", "[I", true)
  | 31 => ("CapitalCaseModel", "seed", "[I", true)
  | 32 => ("CapitalCaseModel", "lawFirst", "[I", true)
  | 33 => ("CapitalCaseModel", "lawLast", "[I", true)
  | 34 => ("CapitalCaseModel", "branches", "I", false)
  | 35 => ("CapitalCaseModel", "hasTest", "[Z", true)
  | 36 => ("CapitalCaseModel", "testFrom", "[I", true)
  | 37 => ("CapitalCaseModel", "testMid", "[I", true)
  | 38 => ("CapitalCaseModel", "testTo", "[I", true)
  | 39 => ("CapitalCaseModel", "termTo", "[I", true)
  | 40 => ("CapitalCaseModel", "codes", "I", false)
  | 41 => ("CapitalCaseModel", "code", "[I", true)
  | 42 => ("CapitalCaseModel", "codeInt", "[I", true)
  | 43 => ("CapitalCaseModel", "letters", "[I", true)
  | 44 => ("CapitalCaseModel", "lettersMany", "I", false)
  | 45 => ("CapitalCaseModel", "waits", "[I", true)
  | 46 => ("CapitalCaseModel", "waiting", "I", false)
  | 47 => ("CapitalCaseModel", "variables", "[I", true)
  | 48 => ("CapitalCaseModel", "pile", "[I", true)
  | 49 => ("CapitalCaseModel", "isBroken", "Z", false)
  | 50 => ("CapitalCaseModel", "now", "[I", true)
  | 51 => ("CapitalCaseModel", "row", "[I", true)
  | 52 => ("CapitalCaseModel", "lots", "I", false)
  | 53 => ("CapitalCaseModel", "isStill", "Z", false)
  | 54 => ("CapitalCaseModel", "shut", "I", false)
  | 55 => ("CapitalCaseModel", "alikeMany", "I", false)
  | 56 => ("CapitalCaseModel", "wentNow", "[Z", true)
  | 57 => ("CapitalCaseModel", "wearsBy", "[I", true)
  | 58 => ("CapitalCaseModel", "paysBy", "[I", true)
  | 59 => ("CapitalCaseModel", "undos", "I", false)
  | 60 => ("CapitalCaseModel", "history", "[I", true)
  | 61 => ("CapitalCaseModel", "ahead", "[I", true)
  | 62 => ("CapitalCaseModel", "bestSum", "I", false)
  | 63 => ("CapitalCaseModel", "bestSet", "I", false)
  | 64 => ("CapitalCaseModel", "tolds", "I", false)
  | 65 => ("CapitalCaseModel", "toldLetter", "[I", true)
  | 66 => ("CapitalCaseModel", "toldWorn", "[I", true)
  | 67 => ("CapitalCaseModel", "toldSo", "[Z", true)
  | 68 => ("CapitalCaseModel", "isHeld", "[Z", true)
  | _ => ("CapitalCaseModel", "heldRows", "[I", true)
def tyX12 : Nat → FieldType := fun k => match k with
  | 0 => .int
  | 1 => .array .byte
  | 2 => .int
  | 3 => .array .byte
  | 4 => .int
  | 5 => .array .int
  | 6 => .array .int
  | 7 => .array .int
  | 8 => .array .long
  | 9 => .array .long
  | 10 => .int
  | 11 => .int
  | 12 => .int
  | 13 => .int
  | 14 => .int
  | 15 => .int
  | 16 => .int
  | 17 => .int
  | 18 => .int
  | 19 => .int
  | 20 => .int
  | 21 => .array .long
  | 22 => .array .int
  | 23 => .array .int
  | 24 => .array .int
  | 25 => .array .int
  | 26 => .array .int
  | 27 => .array .int
  | 28 => .array .int
  | 29 => .array .int
  | 30 => .array .int
  | 31 => .array .int
  | 32 => .array .int
  | 33 => .array .int
  | 34 => .int
  | 35 => .array .boolean
  | 36 => .array .int
  | 37 => .array .int
  | 38 => .array .int
  | 39 => .array .int
  | 40 => .int
  | 41 => .array .int
  | 42 => .array .int
  | 43 => .array .int
  | 44 => .int
  | 45 => .array .int
  | 46 => .int
  | 47 => .array .int
  | 48 => .array .int
  | 49 => .boolean
  | 50 => .array .int
  | 51 => .array .int
  | 52 => .int
  | 53 => .boolean
  | 54 => .int
  | 55 => .int
  | 56 => .array .boolean
  | 57 => .array .int
  | 58 => .array .int
  | 59 => .int
  | 60 => .array .int
  | 61 => .array .int
  | 62 => .int
  | 63 => .int
  | 64 => .int
  | 65 => .array .int
  | 66 => .array .int
  | 67 => .array .boolean
  | 68 => .array .boolean
  | _ => .array .int
theorem nmX12 : ∀ a, a < 70 → ∀ b, b < 70 → a ≠ b → (TX12 a).2.1 ≠ (TX12 b).2.1 := by decide +kernel
theorem tyX12_ok : ∀ k, k < 70 → parseFieldDescriptor (TX12 k).2.2.1 = some (tyX12 k) := by decide +kernel
theorem inX12 : ∀ w ∈ u_ws RX12 TX12 70, w ∈ lw_tbl := fun w h => (goodIn_r (big := lw_tbl) (u_ws RX12 TX12 70) [1351, 1353, 1355, 1357, 1359, 1361, 1363, 1365, 1367, 1369, 1371, 1373, 1375, 1377, 1379, 1381, 1383, 1385, 1387, 1389, 1391, 1393, 1395, 1397, 1399, 1401, 1403, 1405, 1407, 1409, 1411, 1413, 1415, 1417, 1419, 1421, 1423, 1425, 1427, 1429, 1431, 1433, 1435, 1437, 1439, 1441, 1443, 1445, 1447, 1449, 1451, 1453, 1455, 1457, 1459, 1461, 1463, 1465, 1467, 1469, 1471, 1473, 1475, 1477, 1479, 1481, 1483, 1485, 1487, 1489] (by decide +kernel) (by decide +kernel) w h).1
abbrev vwCl : List vw_C := [(RX0, TX0, 3), (RX1, TX1, 3), (RX2, TX2, 10), (RX3, TX3, 12), (RX4, TX4, 2), (RX5, TX5, 4), (RX6, TX6, 15), (RX7, TX7, 3), (RX8, TX8, 10), (RX9, TX9, 3), (RX10, TX10, 9), (RX11, TX11, 16), (RX12, TX12, 70)]
end
section
/-! ===== AN INTERPRETER: abstract values, cells, worlds ===== -/
/-- an int by an interval (offset by 2^31), a reference by its cell's number (none: null), 0: some long, 1 and on: the script -/
abbrev xV : Type := (Nat × Nat) ⊕ (Option Nat ⊕ Nat)
/-- a primitive array (kind, length, what stands where nothing was put, what was put), an array of references, an object (class, fields) -/
abbrev xE : Type := (Nat × Nat × (Nat × Nat) × List (Nat × Nat × Nat)) ⊕ ((Nat × Nat × List (Nat × Nat)) ⊕ (Nat × List xV))
/-- slots made, cells made, the cells in rows of sixteen -/
abbrev xW : Type := Nat × Nat × List (List (Option xE))
abbrev xC : Type := Nat → List xV → xW → Option (Option xV × xW)
abbrev xS : Type := Nat × List (Option xV) × List xV × xW
abbrev xF : Type := xC → List (Option xV) → List xV → xW → Option xS
noncomputable def xget {α : Type} (l : List α) : Nat → Option α := List.rec (fun _ => none) (fun a _ ih n => Nat.rec (some a) (fun m _ => ih m) n) l
noncomputable def xset {α : Type} (v : α) (l : List α) : Nat → List α := List.rec (fun _ => []) (fun a t ih n => Nat.rec (v :: t) (fun m _ => a :: ih m) n) l
theorem xget_eq {α : Type} : ∀ (l : List α) (n : Nat), xget l n = l[n]?
  | [], n => by simp [xget]
  | a :: l, 0 => rfl
  | a :: l, n + 1 => by
    have h := xget_eq l n
    simp only [List.getElem?_cons_succ]
    rw [← h]
    rfl
theorem xset_eq {α : Type} (v : α) : ∀ (l : List α) (n : Nat), xset v l n = l.set n v
  | [], n => by simp [xset]
  | a :: l, 0 => rfl
  | a :: l, n + 1 => by
    have h := xset_eq v l n
    simp only [List.set_cons_succ]
    rw [← h]
    rfl
/-- a cell -/
noncomputable def xwg (w : xW) (k : Nat) : Option xE := match xget w.2.2 (k / 16) with
  | none => none
  | some r => match xget r (k % 16) with
    | none => none
    | some o => o
/-- another content of a cell -/
noncomputable def xws (w : xW) (k : Nat) (e : xE) : xW := match xget w.2.2 (k / 16) with
  | none => w
  | some r => (w.1, w.2.1, xset (xset (some e) r (k % 16)) w.2.2 (k / 16))
/-- a new cell of n slots; none if there is no place -/
noncomputable def xwp (w : xW) (e : xE) (n : Nat) : Option xW := match xget w.2.2 (w.2.1 / 16) with
  | none => none
  | some r => match xget r (w.2.1 % 16) with
    | some none => some (w.1 + n, w.2.1 + 1, xset (xset (some e) r (w.2.1 % 16)) w.2.2 (w.2.1 / 16))
    | _ => none
theorem xwg_set {w : xW} {k j : Nat} {e e0 : xE} (h : xwg w k = some e0) : xwg (xws w k e) j = if j = k then some e else xwg w j := by
  unfold xwg at h
  cases hr : xget w.2.2 (k / 16) with
  | none => simp [hr] at h
  | some r =>
    simp only [hr] at h
    cases ho : xget r (k % 16) with
    | none => simp [ho] at h
    | some o =>
      simp only [xws, hr]
      unfold xwg
      simp only [xget_eq, xset_eq] at *
      have l1 : k / 16 < w.2.2.length := (List.getElem?_eq_some_iff.mp hr).1
      have l2 : k % 16 < r.length := (List.getElem?_eq_some_iff.mp ho).1
      by_cases hjk : j = k
      · subst hjk
        simp [List.getElem?_set_self l1, List.getElem?_set_self l2]
      · by_cases hd : j / 16 = k / 16
        · have hm : k % 16 ≠ j % 16 := by omega
          simp [hd, List.getElem?_set_self l1, List.getElem?_set_ne hm, hjk, hr]
        · simp [List.getElem?_set_ne (Ne.symm hd), hjk]
theorem xwg_push {w w' : xW} {j n : Nat} {e : xE} (h : xwp w e n = some w') : w'.1 = w.1 + n ∧ w'.2.1 = w.2.1 + 1 ∧ xwg w' j = if j = w.2.1 then some e else xwg w j := by
  unfold xwp at h
  cases hr : xget w.2.2 (w.2.1 / 16) with
  | none => simp [hr] at h
  | some r =>
    simp only [hr] at h
    cases ho : xget r (w.2.1 % 16) with
    | none => simp [ho] at h
    | some o =>
      cases o with
      | some o => simp [ho] at h
      | none =>
        simp only [ho, Option.some.injEq] at h
        subst h
        refine ⟨rfl, rfl, ?_⟩
        unfold xwg
        simp only [xget_eq, xset_eq] at *
        have l1 : w.2.1 / 16 < w.2.2.length := (List.getElem?_eq_some_iff.mp hr).1
        have l2 : w.2.1 % 16 < r.length := (List.getElem?_eq_some_iff.mp ho).1
        by_cases hjk : j = w.2.1
        · subst hjk
          simp [List.getElem?_set_self l1, List.getElem?_set_self l2]
        · by_cases hd : j / 16 = w.2.1 / 16
          · have hm : w.2.1 % 16 ≠ j % 16 := by omega
            simp [hd, List.getElem?_set_self l1, List.getElem?_set_ne hm, hjk, hr]
          · simp [List.getElem?_set_ne (Ne.symm hd), hjk]
theorem xws_nums (w : xW) (k : Nat) (e : xE) : (xws w k e).1 = w.1 ∧ (xws w k e).2.1 = w.2.1 := by
  unfold xws
  cases xget w.2.2 (k / 16) <;> exact ⟨rfl, rfl⟩
theorem xbeqF {a b : Nat} (h : ¬ a = b) : Nat.beq a b = false := by
  cases hc : Nat.beq a b with
  | false => rfl
  | true => exact absurd (Nat.eq_of_beq_eq_true hc) h
/-- what stands in an array -/
noncomputable def xlk (us : List (Nat × Nat × Nat)) (d : Nat × Nat) (j : Nat) : Nat × Nat := List.rec d (fun q _ ih => bif Nat.beq q.1 j then q.2 else ih) us
noncomputable def xlp (us : List (Nat × Nat × Nat)) (j : Nat) (v : Nat × Nat) : List (Nat × Nat × Nat) := List.rec [(j, v)] (fun q t ih => bif Nat.beq q.1 j then (j, v) :: t else q :: ih) us
theorem xlk_put (d : Nat × Nat) (j : Nat) (v : Nat × Nat) (i : Nat) : ∀ us : List (Nat × Nat × Nat), xlk (xlp us j v) d i = if i = j then v else xlk us d i
  | [] => by
    show (bif Nat.beq j i then v else d) = _
    by_cases h : i = j
    · subst h; simp
    · have : Nat.beq j i = false := xbeqF (Ne.symm h)
      simp [this, h, xlk]
  | q :: us => by
    have ih := xlk_put d j v i us
    show xlk (bif Nat.beq q.1 j then (j, v) :: us else q :: xlp us j v) d i = _
    by_cases hq : q.1 = j
    · have e : Nat.beq q.1 j = true := by simpa using hq
      rw [e]
      show (bif Nat.beq j i then v else xlk us d i) = if i = j then v else (bif Nat.beq q.1 i then q.2 else xlk us d i)
      by_cases h : i = j
      · subst h; simp
      · have e1 : Nat.beq j i = false := xbeqF (Ne.symm h)
        have e2 : Nat.beq q.1 i = false := by rw [hq]; exact e1
        simp [e1, e2, h]
    · have e : Nat.beq q.1 j = false := xbeqF hq
      rw [e]
      show (bif Nat.beq q.1 i then q.2 else xlk (xlp us j v) d i) = if i = j then v else (bif Nat.beq q.1 i then q.2 else xlk us d i)
      rw [ih]
      by_cases h : i = j
      · subst h
        simp [e]
      · simp [h]
noncomputable def xlq (us : List (Nat × Nat)) (j : Nat) : Option Nat := List.rec none (fun q _ ih => bif Nat.beq q.1 j then some q.2 else ih) us
/-! ints, offset by 2^31 -/
def xo (x : Int32) : Nat := (x.toInt + 2147483648).toNat
def xi (o : Nat) : Int32 := Int32.ofInt ((o : Int) - 2147483648)
theorem xo_int (x : Int32) : (xo x : Int) = x.toInt + 2147483648 := by
  have h1 := Int32.minValue_le_toInt x
  have h2 : Int32.minValue.toInt = -2147483648 := by decide
  rw [h2] at h1
  unfold xo
  omega
theorem xo_lt (x : Int32) : xo x < 4294967296 := by
  have h1 := x.toInt_lt
  have h := xo_int x
  omega
theorem xi_xo (x : Int32) : xi (xo x) = x := by
  unfold xi
  rw [xo_int, show x.toInt + 2147483648 - 2147483648 = x.toInt by omega]
  exact Int32.ofInt_toInt x
theorem xo_inj {x y : Int32} (h : xo x = xo y) : x = y := by rw [← xi_xo x, h, xi_xo]
theorem xo_xi {o : Nat} (h : o < 4294967296) : xo (xi o) = o := by
  have h1 : (xi o).toInt = (o : Int) - 2147483648 := Int32.toInt_ofInt_of_le (by omega) (by omega)
  have h2 := xo_int (xi o)
  omega
theorem xo_lt_iff {x y : Int32} : x < y ↔ xo x < xo y := by
  rw [Int32.lt_iff_toInt_lt]
  have h1 := xo_int x
  have h2 := xo_int y
  omega
theorem xo_le_iff {x y : Int32} : x ≤ y ↔ xo x ≤ xo y := by
  rw [Int32.le_iff_toInt_le]
  have h1 := xo_int x
  have h2 := xo_int y
  omega
theorem xo_zero : xo 0 = 2147483648 := by decide +kernel
theorem xo_nat {n : Nat} (h : n < 2147483648) : xo (Int32.ofNat n) = n + 2147483648 := by
  have h1 : (Int32.ofNat n).toInt = (n : Int) := Int32.toInt_ofNat_of_lt (by omega)
  have h2 := xo_int (Int32.ofNat n)
  omega
theorem xo_clamp {x : Int32} (h : 2147483648 ≤ xo x) : x.toNatClampNeg = xo x - 2147483648 := by
  have h2 := xo_int x
  show x.toInt.toNat = _
  omega
theorem xo_in {x : Int32} {n : Nat} (h : 2147483648 ≤ xo x) (h2 : xo x < n + 2147483648) : vp_in x n := by
  rw [vp_in_iff]
  have h3 := xo_int x
  omega
theorem xo_add (x y : Int32) : xo (x + y) = (xo x + xo y + 2147483648) % 4294967296 := by
  have h := xo_int (x + y)
  have h1 := xo_int x
  have h2 := xo_int y
  have h3 := xo_lt (x + y)
  rw [Int32.toInt_add] at h
  have e : (x.toInt + y.toInt).bmod (2 ^ 32) = (xo x + xo y - 4294967296 : Int).bmod 4294967296 := by
    congr 1; omega
  rw [e, Int.bmod_def] at h
  omega
theorem xo_sub (x y : Int32) : xo (x - y) = (xo x + 6442450944 - xo y) % 4294967296 := by
  have h := xo_int (x - y)
  have h1 := xo_int x
  have h2 := xo_int y
  have h3 := xo_lt (x - y)
  have h4 := xo_lt y
  rw [Int32.toInt_sub] at h
  have e : (x.toInt - y.toInt).bmod (2 ^ 32) = (xo x - xo y : Int).bmod 4294967296 := by
    congr 1; omega
  rw [e, Int.bmod_def] at h
  omega
/-! intervals -/
def xRI (a : Nat × Nat) (x : Int32) : Prop := a.1 ≤ xo x ∧ xo x ≤ a.2
theorem xRI_top (x : Int32) : xRI (0, 4294967295) x := ⟨Nat.zero_le _, by have := xo_lt x; show xo x ≤ 4294967295; omega⟩
theorem xRI_c (x : Int32) : xRI (xo x, xo x) x := ⟨Nat.le_refl _, Nat.le_refl _⟩
def xbin (f : Nat → Nat → Nat) (a b : Nat × Nat) : Nat × Nat := bif (Nat.beq a.1 a.2 && Nat.beq b.1 b.2) then (f a.1 b.1, f a.1 b.1) else (0, 4294967295)
theorem xbin_ok {f : Nat → Nat → Nat} {a b : Nat × Nat} {x y z : Int32} (hx : xRI a x) (hy : xRI b y) (h : xo z = f (xo x) (xo y)) : xRI (xbin f a b) z := by
  unfold xbin
  cases hc : (Nat.beq a.1 a.2 && Nat.beq b.1 b.2) with
  | false => exact xRI_top z
  | true =>
    simp only [Bool.and_eq_true, Nat.beq_eq] at hc
    have e1 : a.1 = xo x := Nat.le_antisymm hx.1 (by rw [hc.1]; exact hx.2)
    have e2 : b.1 = xo y := Nat.le_antisymm hy.1 (by rw [hc.2]; exact hy.2)
    show xRI (f a.1 b.1, f a.1 b.1) z
    rw [e1, e2, ← h]
    exact xRI_c z
def xun (f : Nat → Nat) (a : Nat × Nat) : Nat × Nat := bif Nat.beq a.1 a.2 then (f a.1, f a.1) else (0, 4294967295)
theorem xun_ok {f : Nat → Nat} {a : Nat × Nat} {x z : Int32} (hx : xRI a x) (h : xo z = f (xo x)) : xRI (xun f a) z := by
  unfold xun
  cases hc : Nat.beq a.1 a.2 with
  | false => exact xRI_top z
  | true =>
    have hc := Nat.eq_of_beq_eq_true hc
    have e1 : a.1 = xo x := Nat.le_antisymm hx.1 (by rw [hc]; exact hx.2)
    show xRI (f a.1, f a.1) z
    rw [e1, ← h]
    exact xRI_c z
def xfadd (a b : Nat) : Nat := (a + b + 2147483648) % 4294967296
def xfsub (a b : Nat) : Nat := (a + 6442450944 - b) % 4294967296
def xfg (g : Int32 → Int32 → Int32) (a b : Nat) : Nat := xo (g (xi a) (xi b))
theorem xfg_ok (g : Int32 → Int32 → Int32) (x y : Int32) : xo (g x y) = xfg g (xo x) (xo y) := by unfold xfg; rw [xi_xo, xi_xo]
/-- a comparison: 0 eq, 1 ne, 2 lt, 3 ge, 4 gt, 5 le; none: not decided -/
def xcmp (op : Nat) (a b : Nat × Nat) : Option Bool := match op with
  | 0 => bif Nat.blt a.2 b.1 || Nat.blt b.2 a.1 then some false else bif Nat.beq a.1 a.2 && (Nat.beq b.1 b.2 && Nat.beq a.1 b.1) then some true else none
  | 1 => bif Nat.blt a.2 b.1 || Nat.blt b.2 a.1 then some true else bif Nat.beq a.1 a.2 && (Nat.beq b.1 b.2 && Nat.beq a.1 b.1) then some false else none
  | 2 => bif Nat.blt a.2 b.1 then some true else bif Nat.ble b.2 a.1 then some false else none
  | 3 => bif Nat.blt a.2 b.1 then some false else bif Nat.ble b.2 a.1 then some true else none
  | 4 => bif Nat.blt b.2 a.1 then some true else bif Nat.ble a.2 b.1 then some false else none
  | _ => bif Nat.blt b.2 a.1 then some false else bif Nat.ble a.2 b.1 then some true else none
def xcmpP (op : Nat) (x y : Int32) : Prop := match op with
  | 0 => x = y
  | 1 => ¬ x = y
  | 2 => x < y
  | 3 => y ≤ x
  | 4 => y < x
  | _ => x ≤ y
theorem xblt {a b : Nat} (h : Nat.blt a b = true) : a < b := Nat.le_of_ble_eq_true h
theorem xble {a b : Nat} (h : Nat.ble a b = true) : a ≤ b := Nat.le_of_ble_eq_true h
theorem xcmp_ok {op : Nat} {a b : Nat × Nat} {x y : Int32} {r : Bool} (hx : xRI a x) (hy : xRI b y) (h : xcmp op a b = some r) : (r = true → xcmpP op x y) ∧ (r = false → ¬ xcmpP op x y) := by
  obtain ⟨x1, x2⟩ := hx
  obtain ⟨y1, y2⟩ := hy
  have eqn : x = y ↔ xo x = xo y := ⟨fun q => by rw [q], xo_inj⟩
  have key : ∀ c d : Bool, ∀ u v : Bool, (bif c then some u else bif d then some v else none) = some r → (c = true ∧ r = u) ∨ (c = false ∧ d = true ∧ r = v) := by
    intro c d u v h
    cases c <;> cases d <;> simp_all
  match op, h with
  | 0, h =>
    rcases key _ _ _ _ h with ⟨c, rfl⟩ | ⟨-, d, rfl⟩
    · refine ⟨fun q => (by cases q), fun _ => ?_⟩
      show ¬ x = y
      rw [eqn]
      simp only [Bool.or_eq_true] at c
      rcases c with c | c <;> have := xblt c <;> omega
    · refine ⟨fun _ => ?_, fun q => by cases q⟩
      show x = y
      rw [eqn]
      simp only [Bool.and_eq_true, Nat.beq_eq] at d
      omega
  | 1, h =>
    rcases key _ _ _ _ h with ⟨c, rfl⟩ | ⟨-, d, rfl⟩
    · refine ⟨fun _ => ?_, fun q => by cases q⟩
      show ¬ x = y
      rw [eqn]
      simp only [Bool.or_eq_true] at c
      rcases c with c | c <;> have := xblt c <;> omega
    · refine ⟨fun q => (by cases q), fun _ => ?_⟩
      show ¬ ¬ x = y
      rw [eqn]
      simp only [Bool.and_eq_true, Nat.beq_eq] at d
      omega
  | 2, h =>
    rcases key _ _ _ _ h with ⟨c, rfl⟩ | ⟨-, d, rfl⟩
    · refine ⟨fun _ => ?_, fun q => by cases q⟩
      show x < y
      rw [xo_lt_iff]; have := xblt c; omega
    · refine ⟨fun q => (by cases q), fun _ => ?_⟩
      show ¬ x < y
      rw [xo_lt_iff]; have := xble d; omega
  | 3, h =>
    rcases key _ _ _ _ h with ⟨c, rfl⟩ | ⟨-, d, rfl⟩
    · refine ⟨fun q => (by cases q), fun _ => ?_⟩
      show ¬ y ≤ x
      rw [xo_le_iff]; have := xblt c; omega
    · refine ⟨fun _ => ?_, fun q => by cases q⟩
      show y ≤ x
      rw [xo_le_iff]; have := xble d; omega
  | 4, h =>
    rcases key _ _ _ _ h with ⟨c, rfl⟩ | ⟨-, d, rfl⟩
    · refine ⟨fun _ => ?_, fun q => by cases q⟩
      show y < x
      rw [xo_lt_iff]; have := xblt c; omega
    · refine ⟨fun q => (by cases q), fun _ => ?_⟩
      show ¬ y < x
      rw [xo_lt_iff]; have := xble d; omega
  | n + 5, h =>
    rcases key _ _ _ _ h with ⟨c, rfl⟩ | ⟨-, d, rfl⟩
    · refine ⟨fun q => (by cases q), fun _ => ?_⟩
      show ¬ x ≤ y
      rw [xo_le_iff]; have := xblt c; omega
    · refine ⟨fun _ => ?_, fun q => by cases q⟩
      show x ≤ y
      rw [xo_le_iff]; have := xble d; omega
end
section
/-! ===== WHAT AN ABSTRACT STATE SAYS OF THE MACHINE ===== -/
def xTys : List FieldType := [.int, .byte, .boolean, .long, .object "CapitalCase$Town"]
def xTB : List Cond := lw_tbl.filter goodWord
theorem xmem {w : Cond} (h : w ∈ lw_tbl) (hg : goodWord w = true) : w ∈ xTB := List.mem_filter.mpr ⟨h, hg⟩
theorem xw {w : Cond} (i : Nat) (h : lw_tbl[i]? = some w) (hg : goodWord w = true) : w ∈ xTB := xmem (List.mem_of_getElem? h) hg
def xRV (sz b : Nat) (v : xV) (u : Value) : Prop := match v with
  | .inl a => ∃ x : Int32, u = .int x ∧ xRI a x
  | .inr (.inl none) => u = .null
  | .inr (.inl (some k)) => u = .ref (sz + k)
  | .inr (.inr 0) => ∃ x : Int64, u = .long x
  | .inr (.inr (_ + 1)) => u = .ref b
def xRS (sz b : Nat) : List xV → List Value → Prop
  | [], st => st = []
  | v :: S, st => ∃ u st', st = u :: st' ∧ xRV sz b v u ∧ xRS sz b S st'
theorem xRS_get {sz b : Nat} : ∀ {S : List xV} {st : List Value} {k : Nat} {v : xV}, xRS sz b S st → S[k]? = some v → ∃ u, st[k]? = some u ∧ xRV sz b v u
  | [], st, k, v, _, h => by simp at h
  | a :: S, st, 0, v, h, hk => by
    obtain ⟨u, st', rfl, h1, -⟩ := h
    simp only [List.getElem?_cons_zero, Option.some.injEq] at hk
    subst hk
    exact ⟨u, rfl, h1⟩
  | a :: S, st, k + 1, v, h, hk => by
    obtain ⟨u, st', rfl, -, h2⟩ := h
    simp only [List.getElem?_cons_succ] at hk ⊢
    exact xRS_get h2 hk
theorem xRS_len {sz b : Nat} : ∀ {S : List xV} {st : List Value}, xRS sz b S st → st.length = S.length
  | [], st, h => by cases h; rfl
  | a :: S, st, h => by
    obtain ⟨u, st', rfl, -, h2⟩ := h
    simp [xRS_len h2]
theorem xRS_set {sz b : Nat} {v : xV} {u : Value} (hv : xRV sz b v u) : ∀ {S : List xV} {st : List Value} (k : Nat), xRS sz b S st → xRS sz b (S.set k v) (st.set k u)
  | [], st, k, h => by cases h; rfl
  | a :: S, st, 0, h => by
    obtain ⟨u', st', rfl, h1, h2⟩ := h
    exact ⟨u, st', rfl, hv, h2⟩
  | a :: S, st, k + 1, h => by
    obtain ⟨u', st', rfl, h1, h2⟩ := h
    exact ⟨u', st'.set k u, rfl, h1, xRS_set hv k h2⟩
theorem xRS_map {sz b : Nat} {f : Nat → xV} {g : Nat → Value} : ∀ (l : List Nat), (∀ j ∈ l, xRV sz b (f j) (g j)) → xRS sz b (l.map f) (l.map g)
  | [], _ => rfl
  | a :: l, h => ⟨g a, l.map g, rfl, h a List.mem_cons_self, xRS_map l (fun j hj => h j (List.mem_cons_of_mem _ hj))⟩
theorem xRS_app {sz b : Nat} : ∀ {S1 S2 : List xV} {t1 t2 : List Value}, xRS sz b S1 t1 → xRS sz b S2 t2 → xRS sz b (S1 ++ S2) (t1 ++ t2)
  | [], S2, t1, t2, h1, h2 => by cases h1; exact h2
  | a :: S1, S2, t1, t2, h1, h2 => by
    obtain ⟨u, t', rfl, q1, q2⟩ := h1
    exact ⟨u, t' ++ t2, rfl, q1, xRS_app q2 h2⟩
theorem xRS_rev {sz b : Nat} : ∀ {S : List xV} {st : List Value}, xRS sz b S st → xRS sz b S.reverse st.reverse
  | [], st, h => by cases h; rfl
  | a :: S, st, h => by
    obtain ⟨u, t', rfl, q1, q2⟩ := h
    simp only [List.reverse_cons]
    exact xRS_app (xRS_rev q2) ⟨u, [], rfl, q1, rfl⟩
theorem xRS_split {sz b : Nat} : ∀ {S1 S2 : List xV} {st : List Value}, xRS sz b (S1 ++ S2) st → ∃ t1 t2, st = t1 ++ t2 ∧ xRS sz b S1 t1 ∧ xRS sz b S2 t2
  | [], S2, st, h => ⟨[], st, rfl, rfl, h⟩
  | a :: S1, S2, st, h => by
    obtain ⟨u, t', rfl, q1, q2⟩ := h
    obtain ⟨t1, t2, rfl, q3, q4⟩ := xRS_split q2
    exact ⟨u :: t1, t2, rfl, ⟨u, t1, rfl, q1, q3⟩, q4⟩
def xRE (sz b : Nat) (tys : List (ClassId × FieldType)) (e : xE) (u : va_E) : Prop := match e with
  | .inl (t, n, d, us) => ∃ (cA : ClassId) (ty : FieldType), tys[t]? = some (cA, ty) ∧ n < 2147483648 ∧ ((t < 3 ∧ ∃ f : Nat → Int32, u = .inl (cA, n, .inl f) ∧ ∀ j, j < n → xRI (xlk us d j) (f j)) ∨ (t = 3 ∧ ∃ f : Nat → Int64, u = .inl (cA, n, .inr (.inl f))))
  | .inr (.inl (t, n, us)) => ∃ (cA : ClassId) (ty : FieldType), tys[t]? = some (cA, ty) ∧ n < 2147483648 ∧ t = 4 ∧ ∃ f : Nat → Option Nat, u = .inl (cA, n, .inr (.inr (.inr (.inr f)))) ∧ ∀ j, j < n → f j = (xlq us j).map (fun k => sz + k)
  | .inr (.inr (ci, fs)) => ∃ vs : List Value, u = .inr (ci, vs) ∧ xRS sz b fs vs
def xRW (sz b : Nat) (tys : List (ClassId × FieldType)) (w : xW) (ws : va_W) : Prop :=
  ws.length = w.2.1 ∧ (∀ (k : Nat) (e : xE), xwg w k = some e → ∃ u : va_E, ws[k]? = some (sz + k, u) ∧ xRE sz b tys e u) ∧ ∀ (k : Nat) (q : Nat × va_E), ws[k]? = some q → q.1 = sz + k
theorem xRW_D {sz b : Nat} {tys : List (ClassId × FieldType)} {w : xW} {ws : va_W} (h : xRW sz b tys w ws) : va_D (fun q => sz ≤ q) ws :=
  ⟨fun i j p q hi hj he => by have h1 := h.2.2 i p hi; have h2 := h.2.2 j q hj; omega, fun k q hk => by have h1 := h.2.2 k q hk; show sz ≤ q.1; omega⟩
theorem xRW_set {sz b k : Nat} {tys : List (ClassId × FieldType)} {w : xW} {ws : va_W} {e0 e : xE} {u : va_E} (h : xRW sz b tys w ws) (hk : xwg w k = some e0) (hu : xRE sz b tys e u) : xRW sz b tys (xws w k e) (ws.set k (sz + k, u)) := by
  have hn := xws_nums w k e
  obtain ⟨u0, h0, -⟩ := h.2.1 k e0 hk
  have hl : k < ws.length := (List.getElem?_eq_some_iff.mp h0).1
  refine ⟨by rw [List.length_set, hn.2]; exact h.1, fun j e' hj => ?_, fun j q hj => ?_⟩
  · rw [xwg_set hk] at hj
    by_cases hjk : j = k
    · subst hjk
      rw [if_pos rfl] at hj
      cases hj
      exact ⟨u, List.getElem?_set_self hl, hu⟩
    · rw [if_neg hjk] at hj
      rw [List.getElem?_set_ne (Ne.symm hjk)]
      exact h.2.1 j e' hj
  · by_cases hjk : j = k
    · subst hjk
      rw [List.getElem?_set_self hl] at hj
      cases hj
      rfl
    · rw [List.getElem?_set_ne (Ne.symm hjk)] at hj
      exact h.2.2 j q hj
theorem xRW_push {sz b n : Nat} {tys : List (ClassId × FieldType)} {w w' : xW} {ws : va_W} {e : xE} {u : va_E} (h : xRW sz b tys w ws) (hk : xwp w e n = some w') (hu : xRE sz b tys e u) : xRW sz b tys w' (ws ++ [(sz + w.2.1, u)]) := by
  have hl := h.1
  refine ⟨by rw [List.length_append, (xwg_push (j := 0) hk).2.1, hl]; rfl, fun j e' hj => ?_, fun j q hj => ?_⟩
  · rw [(xwg_push (j := j) hk).2.2] at hj
    by_cases hjk : j = w.2.1
    · subst hjk
      rw [if_pos rfl] at hj
      cases hj
      refine ⟨u, ?_, hu⟩
      rw [List.getElem?_append_right (by omega), hl, Nat.sub_self]
      rfl
    · rw [if_neg hjk] at hj
      obtain ⟨u', h1, h2⟩ := h.2.1 j e' hj
      refine ⟨u', ?_, h2⟩
      rw [List.getElem?_append_left (List.getElem?_eq_some_iff.mp h1).1]
      exact h1
  · by_cases hjl : j < ws.length
    · rw [List.getElem?_append_left hjl] at hj
      exact h.2.2 j q hj
    · rw [List.getElem?_append_right (by omega)] at hj
      have hz : j - ws.length < 1 := (List.getElem?_eq_some_iff.mp hj).1
      rw [show j - ws.length = 0 by omega] at hj
      cases hj
      show sz + w.2.1 = sz + j
      omega
/-- the links to private members of nest mates -/
def xNT : List (String × Nat × MethodName × String) := [("CapitalCase$Parser", 20, ⟨"CapitalCase$Tokens", "<init>", "()V"⟩, "CapitalCase"), ("CapitalCase", 38, ⟨"CapitalCase$Town", "<init>", "()V"⟩, "CapitalCase"), ("CapitalCase", 48, ⟨"CapitalCase$History", "<init>", "()V"⟩, "CapitalCase"), ("CapitalCase", 63, ⟨"CapitalCase$Prints", "<init>", "()V"⟩, "CapitalCase"), ("CapitalCase$TwoDays", 11, ⟨"CapitalCase$Town", "<init>", "()V"⟩, "CapitalCase"), ("CapitalCase$History", 19, ⟨"CapitalCase$Town", "<init>", "()V"⟩, "CapitalCase")]
def xN (s : State) : Prop := (∀ q ∈ xNT, va_Nw (.methodLinkNest q.1 q.2.1 q.2.2.1 q.2.2.2) s) ∧ va_AO "CapitalCase$Town" s
theorem xN_warm {s U : State} (hW : s.WarmedH U.vm) (h : xN s) : xN U := ⟨fun q hq => va_Nw.warmM hW (h.1 q hq), va_AO.moved hW.alike h.2⟩
theorem xN_same {s U : State} (hv : s.vm = U.vm) (h : xN s) : xN U := ⟨fun q hq => va_Nw.same rfl hv (h.1 q hq), va_AO.moved (by rw [← hv]; exact Vm.Alike.refl s.vm) h.2⟩
/-! the walk of a method -/
def xCtx (p : Program) (s : State) (m : MethodId) (args : Array Value) (meth : Method) (c : Code) (cc : ByteArray) (own : String) (ini : Bool) (nL : Nat) (D : va_G) (tys : List (ClassId × FieldType)) : Prop :=
  p.tables.exec = Jvm.exec ∧ c.code = cc ∧ c.maxLocals = nL ∧ s.vm.findClass own = some m.cls ∧ (∀ w ∈ xTB, w.before args s = true) ∧ va_K D vwCl tys s ∧ tys.map Prod.snd = xTys ∧ (ini = true → meth.name = "<init>") ∧ xN s
def xMem (D : va_G) (tys : List (ClassId × FieldType)) (sz b : Nat) (s : State) (c0 s0 : Nat) (w : xW) (H : Heap) (locs : List Loc) (cells slots : Nat) : Prop :=
  (∃ ws : va_W, xRW sz b tys w ws ∧ va_P D vwCl ws H) ∧ H.size = sz + w.2.1 ∧ va_S (fun q => sz ≤ q) s.heap H locs ∧ c0 + cells = w.2.1 ∧ s0 + slots = w.1 ∧ s.heap.size = sz + c0
def xRL (sz b : Nat) (L : List (Option xV)) (ls : Array Slot) (nL : Nat) : Prop :=
  L.length = nL ∧ ∃ lv : List (Nat × Value), lv_has ls nL lv ∧ ∀ (i : Nat) (v : xV), xget L i = some (some v) → ∃ u : Value, (i, u) ∈ lv ∧ xRV sz b v u
def xReach (G : State → Nat → Nat → Prop) (cc : ByteArray) (own : String) (ini : Bool) (pc d : Nat) (L : List (Option xV)) (S : List xV) (w : xW) (pc' : Nat) (L' : List (Option xV)) (S' : List xV) (w' : xW) : Prop :=
  ∀ (p : Program) (l : Launch) (e : Env) (R : Room) (s : State) (m : MethodId) (args : Array Value) (below : List Frame) (meth : Method) (c : Code) (Q : State → Prop) (nL : Nat) (D : va_G) (tys : List (ClassId × FieldType)) (sz b c0 s0 : Nat),
    xCtx p s m args meth c cc own ini nL D tys → G s sz b → d + 1 ≤ R.frames → 64 * (d + 1) ≤ R.locals → w'.2.1 ≤ c0 + R.cells → w'.1 ≤ s0 + R.slots →
    ∀ (ls : Array Slot) (st : List Value) (H : Heap) (locs : List Loc) (cells slots : Nat), xMem D tys sz b s c0 s0 w H locs cells slots → xRL sz b L ls nL → xRS sz b S st →
    (∀ (ls' : Array Slot) (st' : List Value) (H' : Heap) (locs' : List Loc) (cells' slots' : Nat), xMem D tys sz b s c0 s0 w' H' locs' cells' slots' → xRL sz b L' ls' nL → xRS sz b S' st' → W p l e R s m args below meth c H' locs' cells' slots' Q (F0 m pc' ls' st')) →
    W p l e R s m args below meth c H locs cells slots Q (F0 m pc ls st)
def xLe (w w' : xW) : Prop := w.2.1 ≤ w'.2.1 ∧ w.1 ≤ w'.1
theorem xLe_rf {w : xW} : xLe w w := ⟨Nat.le_refl _, Nat.le_refl _⟩
/-! contracts of calls -/
def xPc (D : va_G) (tys : List (ClassId × FieldType)) (sz b : Nat) (as : List xV) (w : xW) : Array Value → State → Prop := fun v U =>
  ∃ us : List Value, v = us.toArray ∧ xRS sz b as us ∧ (∃ ws : va_W, xRW sz b tys w ws ∧ va_P D vwCl ws U.heap) ∧ U.heap.size = sz + w.2.1 ∧ va_K D vwCl tys U ∧ tys.map Prod.snd = xTys ∧ xN U
def xRO (sz b : Nat) (r : Option xV) (v : Option Value) : Prop := match r with
  | none => v = none
  | some a => ∃ u, v = some u ∧ xRV sz b a u
def xQc (D : va_G) (tys : List (ClassId × FieldType)) (sz b : Nat) (r : Option xV) (w' : xW) : Array Value → State → Outcome → State → Prop := fun _ st o t =>
  ∃ v : Option Value, o = .returned v ∧ xRO sz b r v ∧ (∃ ws : va_W, xRW sz b tys w' ws ∧ va_P D vwCl ws t.heap) ∧ t.heap.size = sz + w'.2.1 ∧ va_F (fun q => sz ≤ q) st t
def xRm (d mc ms : Nat) : Room := { frames := d, cells := mc, slots := ms, locals := 64 * d }
abbrev xP : Type := MethodName × ByteArray × Nat × Option FieldType
def xMet (q : xP) (d : Nat) (as : List xV) (w : xW) (r : Option xV) (w' : xW) : Prop :=
  ∀ (l : Launch) (D : va_G) (tys : List (ClassId × FieldType)) (sz b : Nat), Met l q.1 (.code q.1 q.2.1 q.2.2.1 q.2.2.2 :: xTB) (xRm d (w'.2.1 - w.2.1) (w'.1 - w.1)) (xPc D tys sz b as w) (xQc D tys sz b r w') (w'.2.1 - w.2.1) (w'.1 - w.1) (fun a => sz ≤ a)
/-- the methods by number -/
abbrev xPX : Type := Nat → Option xP
def xCalls (PX : xPX) (d : Nat) (call : xC) : Prop := ∀ (j : Nat) (as : List xV) (w : xW) (r : Option xV) (w' : xW), call j as w = some (r, w') → xLe w w' ∧ ∀ q : xP, PX j = some q → xMet q d as w r w'
def xSound (PX : xPX) (G : State → Nat → Nat → Prop) (cc : ByteArray) (own : String) (ini : Bool) (pc : Nat) (f : xF) : Prop :=
  ∀ (call : xC) (d : Nat), xCalls PX d call → ∀ (L : List (Option xV)) (S : List xV) (w : xW) (pc' : Nat) (L' : List (Option xV)) (S' : List xV) (w' : xW), f call L S w = some (pc', L', S', w') → xLe w w' ∧ xReach G cc own ini pc d L S w pc' L' S' w'
/-! the instructions that leave the world alone -/
def x_const (k n : Nat) : xF := fun _ L S w => some (n, L, .inl (k, k) :: S, w)
def x_lconst (n : Nat) : xF := fun _ L S w => some (n, L, .inr (.inr 0) :: S, w)
noncomputable def x_iload (i n : Nat) : xF := fun _ L S w => match xget L i with
  | some (some (.inl a)) => some (n, L, .inl a :: S, w)
  | _ => none
noncomputable def x_aload (i n : Nat) : xF := fun _ L S w => match xget L i with
  | some (some (.inr (.inl (some k)))) => some (n, L, .inr (.inl (some k)) :: S, w)
  | _ => none
noncomputable def x_sload (i n : Nat) : xF := fun _ L S w => match xget L i with
  | some (some (.inr (.inr (k + 1)))) => some (n, L, .inr (.inr (k + 1)) :: S, w)
  | _ => none
noncomputable def x_lload (i n : Nat) : xF := fun _ L S w => match xget L i with
  | some (some (.inr (.inr 0))) => some (n, L, .inr (.inr 0) :: S, w)
  | _ => none
def xlg (o : Option (Option xV)) : Bool := match o with
  | some (some (.inr (.inr 0))) => true
  | _ => false
noncomputable def xst (L : List (Option xV)) (i : Nat) (v : xV) : Option (List (Option xV)) := match xget L i with
  | none => none
  | some _ => bif xlg (xget L (i - 1)) then none else some (xset (some v) L i)
noncomputable def x_istore (i n : Nat) : xF := fun _ L S w => match S with
  | .inl a :: S => (match xst L i (.inl a) with
    | some L' => some (n, L', S, w)
    | none => none)
  | _ => none
noncomputable def x_astore (i n : Nat) : xF := fun _ L S w => match S with
  | .inr (.inl r) :: S => (match xst L i (.inr (.inl r)) with
    | some L' => some (n, L', S, w)
    | none => none)
  | _ => none
noncomputable def x_iinc (i k n : Nat) : xF := fun _ L S w => match xget L i with
  | some (some (.inl a)) => (match xst L i (.inl (xbin xfadd a (k, k))) with
    | some L' => some (n, L', S, w)
    | none => none)
  | _ => none
def x_bin (f : Nat → Nat → Nat) (n : Nat) : xF := fun _ L S w => match S with
  | .inl b :: .inl a :: S => some (n, L, .inl (xbin f a b) :: S, w)
  | _ => none
def x_un (f : Nat → Nat) (n : Nat) : xF := fun _ L S w => match S with
  | .inl a :: S => some (n, L, .inl (xun f a) :: S, w)
  | _ => none
/-- a remainder of what is not below 0 -/
def x_rem (n : Nat) : xF := fun _ L S w => match S with
  | .inl b :: .inl a :: S => bif Nat.beq a.1 a.2 && (Nat.beq b.1 b.2 && (Nat.ble 2147483648 a.1 && Nat.blt 2147483648 b.1)) then some (n, L, .inl (2147483648 + (a.1 - 2147483648) % (b.1 - 2147483648), 2147483648 + (a.1 - 2147483648) % (b.1 - 2147483648)) :: S, w) else none
  | _ => none
def x_i2l (n : Nat) : xF := fun _ L S w => match S with
  | .inl _ :: S => some (n, L, .inr (.inr 0) :: S, w)
  | _ => none
def x_lbin (n : Nat) : xF := fun _ L S w => match S with
  | .inr (.inr 0) :: .inr (.inr 0) :: S => some (n, L, .inr (.inr 0) :: S, w)
  | _ => none
def x1 (v : xV) : Bool := match v with
  | .inr (.inr 0) => false
  | _ => true
def x_dup (n : Nat) : xF := fun _ L S w => match S with
  | v :: S => bif x1 v then some (n, L, v :: v :: S, w) else none
  | _ => none
def x_dup2 (n : Nat) : xF := fun _ L S w => match S with
  | v :: u :: S => bif x1 v && x1 u then some (n, L, v :: u :: v :: u :: S, w) else none
  | _ => none
def x_if (op t n : Nat) : xF := fun _ L S w => match S with
  | .inl a :: S => (match xcmp op a (2147483648, 2147483648) with
    | some true => some (t, L, S, w)
    | some false => some (n, L, S, w)
    | none => none)
  | _ => none
def x_icmp (op t n : Nat) : xF := fun _ L S w => match S with
  | .inl b :: .inl a :: S => (match xcmp op a b with
    | some true => some (t, L, S, w)
    | some false => some (n, L, S, w)
    | none => none)
  | _ => none
def x_goto (t : Nat) : xF := fun _ L S w => some (t, L, S, w)
def x_ifnonnull (t n : Nat) : xF := fun _ L S w => match S with
  | .inr (.inl none) :: S => some (n, L, S, w)
  | .inr (.inl (some _)) :: S => some (t, L, S, w)
  | _ => none
noncomputable def x_tsw (lo : Nat) (ts : List Nat) (df : Nat) : xF := fun _ L S w => match S with
  | .inl a :: S => bif Nat.blt a.2 lo || Nat.ble (lo + ts.length) a.1 then some (df, L, S, w) else bif Nat.beq a.1 a.2 then (match xget ts (a.1 - lo) with
    | some t => some (t, L, S, w)
    | none => none) else none
  | _ => none
section XS1
variable {PX : xPX} {G : State → Nat → Nat → Prop} {cc : ByteArray} {own : String} {ini : Bool} {pc : Nat}
theorem xRV1 {sz b : Nat} {v : xV} {u : Value} (h : xRV sz b v u) (h1 : x1 v = true) : u.category = 1 := by
  match v, h, h1 with
  | .inl a, h, _ => obtain ⟨x, rfl, -⟩ := h; rfl
  | .inr (.inl none), h, _ => cases h; rfl
  | .inr (.inl (some k)), h, _ => cases h; rfl
  | .inr (.inr 0), _, h1 => cases h1
  | .inr (.inr (k + 1)), h, _ => cases h; rfl
theorem s_iconst {n : Int} {k : Nat} (hd : decode cc pc = .ok (.iconst n, 1)) (hv : xo (Int32.ofInt n) = k) : xSound PX G cc own ini pc (x_const k (pc + 1)) := by
  intro call d hc L S w pc' L' S' w' h
  cases h
  refine ⟨xLe_rf, ?_⟩
  intro p l e R s m args below meth c Q nL D tys sz b c0 s0 C hG hf hlo h1 h2 ls st H locs cells slots hM hL hS kk
  exact lv_iconst C.1 C.2.1 hd rfl (kk _ _ _ _ _ _ hM hL ⟨_, _, rfl, ⟨_, rfl, hv ▸ xRI_c _⟩, hS⟩)
theorem s_bipush {n : Int} {k : Nat} (hd : decode cc pc = .ok (.bipush n, 2)) (hv : xo (Int8.ofInt n).toInt32 = k) : xSound PX G cc own ini pc (x_const k (pc + 2)) := by
  intro call d hc L S w pc' L' S' w' h
  cases h
  refine ⟨xLe_rf, ?_⟩
  intro p l e R s m args below meth c Q nL D tys sz b c0 s0 C hG hf hlo h1 h2 ls st H locs cells slots hM hL hS kk
  exact lv_bipush C.1 C.2.1 hd rfl (kk _ _ _ _ _ _ hM hL ⟨_, _, rfl, ⟨_, rfl, hv ▸ xRI_c _⟩, hS⟩)
theorem s_sipush {n : Int} {k : Nat} (hd : decode cc pc = .ok (.sipush n, 3)) (hv : xo (Int16.ofInt n).toInt32 = k) : xSound PX G cc own ini pc (x_const k (pc + 3)) := by
  intro call d hc L S w pc' L' S' w' h
  cases h
  refine ⟨xLe_rf, ?_⟩
  intro p l e R s m args below meth c Q nL D tys sz b c0 s0 C hG hf hlo h1 h2 ls st H locs cells slots hM hL hS kk
  exact lv_sipush C.1 C.2.1 hd rfl (kk _ _ _ _ _ _ hM hL ⟨_, _, rfl, ⟨_, rfl, hv ▸ xRI_c _⟩, hS⟩)
theorem s_ldc {index : Nat} {v : Int32} {k : Nat} (hd : decode cc pc = .ok (.ldc index, 2)) (hw : Cond.constant own index v ∈ xTB) (hv : xo v = k) : xSound PX G cc own ini pc (x_const k (pc + 2)) := by
  intro call d hc L S w pc' L' S' w' h
  cases h
  refine ⟨xLe_rf, ?_⟩
  intro p l e R s m args below meth c Q nL D tys sz b c0 s0 C hG hf hlo h1 h2 ls st H locs cells slots hM hL hS kk
  exact lv_ldc C.1 C.2.1 C.2.2.2.1 (C.2.2.2.2.1 _ hw) hd (kk _ _ _ _ _ _ hM hL ⟨_, _, rfl, ⟨_, rfl, hv ▸ xRI_c _⟩, hS⟩)
theorem s_ldcw {index : Nat} {v : Int32} {k : Nat} (hd : decode cc pc = .ok (.ldc_w index, 3)) (hw : Cond.constant own index v ∈ xTB) (hv : xo v = k) : xSound PX G cc own ini pc (x_const k (pc + 3)) := by
  intro call d hc L S w pc' L' S' w' h
  cases h
  refine ⟨xLe_rf, ?_⟩
  intro p l e R s m args below meth c Q nL D tys sz b c0 s0 C hG hf hlo h1 h2 ls st H locs cells slots hM hL hS kk
  exact lv_ldcw C.1 C.2.1 C.2.2.2.1 (C.2.2.2.2.1 _ hw) hd (kk _ _ _ _ _ _ hM hL ⟨_, _, rfl, ⟨_, rfl, hv ▸ xRI_c _⟩, hS⟩)
theorem s_ldc2 {index : Nat} {v : Int64} (hd : decode cc pc = .ok (.ldc2_w index, 3)) (hw : Cond.constantLong own index v ∈ xTB) : xSound PX G cc own ini pc (x_lconst (pc + 3)) := by
  intro call d hc L S w pc' L' S' w' h
  cases h
  refine ⟨xLe_rf, ?_⟩
  intro p l e R s m args below meth c Q nL D tys sz b c0 s0 C hG hf hlo h1 h2 ls st H locs cells slots hM hL hS kk
  exact lv_ldc2 C.1 C.2.1 C.2.2.2.1 (C.2.2.2.2.1 _ hw) hd (kk _ _ _ _ _ _ hM hL ⟨_, _, rfl, ⟨_, rfl⟩, hS⟩)
theorem s_lconst {n : Fin 2} (hd : decode cc pc = .ok (.lconst n, 1)) : xSound PX G cc own ini pc (x_lconst (pc + 1)) := by
  intro call d hc L S w pc' L' S' w' h
  cases h
  refine ⟨xLe_rf, ?_⟩
  intro p l e R s m args below meth c Q nL D tys sz b c0 s0 C hG hf hlo h1 h2 ls st H locs cells slots hM hL hS kk
  exact lv_lconst C.1 C.2.1 hd rfl (kk _ _ _ _ _ _ hM hL ⟨_, _, rfl, ⟨_, rfl⟩, hS⟩)
theorem xRL_at {sz b nL i : Nat} {L : List (Option xV)} {ls : Array Slot} {v : xV} (h : xRL sz b L ls nL) (hi : xget L i = some (some v)) : ∃ u, ls[i]? = some (.val u) ∧ xRV sz b v u := by
  obtain ⟨-, lv, h1, h2⟩ := h
  obtain ⟨u, h3, h4⟩ := h2 i v hi
  exact ⟨u, h1.2.2 (i, u) h3, h4⟩
theorem x_iload_eq {i n : Nat} {call : xC} {L : List (Option xV)} {S : List xV} {w : xW} {r : xS} (h : x_iload i n call L S w = some r) : ∃ a, xget L i = some (some (.inl a)) ∧ r = (n, L, .inl a :: S, w) := by
  unfold x_iload at h
  split at h
  · rename_i a ha
    exact ⟨a, ha, (Option.some.inj h).symm⟩
  · cases h
theorem s_iload_n {k : Fin 4} (hd : decode cc pc = .ok (.iload_n k, 1)) : xSound PX G cc own ini pc (x_iload k (pc + 1)) := by
  intro call d hc L S w pc' L' S' w' h
  obtain ⟨a, ha, hr⟩ := x_iload_eq h
  cases hr
  refine ⟨xLe_rf, ?_⟩
  intro p l e R s m args below meth c Q nL D tys sz b c0 s0 C hG hf hlo h1 h2 ls st H locs cells slots hM hL hS kk
  obtain ⟨u, hu, x, rfl, hx⟩ := xRL_at hL ha
  exact lv_iload_n C.1 C.2.1 hd rfl hu (kk _ _ _ _ _ _ hM hL ⟨_, _, rfl, ⟨_, rfl, hx⟩, hS⟩)
theorem s_iload {i : Nat} (hd : decode cc pc = .ok (.iload i, 2)) : xSound PX G cc own ini pc (x_iload i (pc + 2)) := by
  intro call d hc L S w pc' L' S' w' h
  obtain ⟨a, ha, hr⟩ := x_iload_eq h
  cases hr
  refine ⟨xLe_rf, ?_⟩
  intro p l e R s m args below meth c Q nL D tys sz b c0 s0 C hG hf hlo h1 h2 ls st H locs cells slots hM hL hS kk
  obtain ⟨u, hu, x, rfl, hx⟩ := xRL_at hL ha
  exact lv_iload C.1 C.2.1 hd hu (kk _ _ _ _ _ _ hM hL ⟨_, _, rfl, ⟨_, rfl, hx⟩, hS⟩)
theorem x_aload_eq {i n : Nat} {call : xC} {L : List (Option xV)} {S : List xV} {w : xW} {r : xS} (h : x_aload i n call L S w = some r) : ∃ k, xget L i = some (some (.inr (.inl (some k)))) ∧ r = (n, L, .inr (.inl (some k)) :: S, w) := by
  unfold x_aload at h
  split at h
  · rename_i a ha
    exact ⟨a, ha, (Option.some.inj h).symm⟩
  · cases h
theorem s_aload_n {k : Fin 4} (hd : decode cc pc = .ok (.aload_n k, 1)) : xSound PX G cc own ini pc (x_aload k (pc + 1)) := by
  intro call d hc L S w pc' L' S' w' h
  obtain ⟨a, ha, hr⟩ := x_aload_eq h
  cases hr
  refine ⟨xLe_rf, ?_⟩
  intro p l e R s m args below meth c Q nL D tys sz b c0 s0 C hG hf hlo h1 h2 ls st H locs cells slots hM hL hS kk
  obtain ⟨u, hu, rfl⟩ := xRL_at hL ha
  exact lv_aload_n C.1 C.2.1 hd rfl hu (kk _ _ _ _ _ _ hM hL ⟨_, _, rfl, rfl, hS⟩)
theorem s_aload {i : Nat} (hd : decode cc pc = .ok (.aload i, 2)) : xSound PX G cc own ini pc (x_aload i (pc + 2)) := by
  intro call d hc L S w pc' L' S' w' h
  obtain ⟨a, ha, hr⟩ := x_aload_eq h
  cases hr
  refine ⟨xLe_rf, ?_⟩
  intro p l e R s m args below meth c Q nL D tys sz b c0 s0 C hG hf hlo h1 h2 ls st H locs cells slots hM hL hS kk
  obtain ⟨u, hu, rfl⟩ := xRL_at hL ha
  exact lv_aload C.1 C.2.1 hd hu (kk _ _ _ _ _ _ hM hL ⟨_, _, rfl, rfl, hS⟩)
theorem s_sload_n {k : Fin 4} (hd : decode cc pc = .ok (.aload_n k, 1)) : xSound PX G cc own ini pc (x_sload k (pc + 1)) := by
  intro call d hc L S w pc' L' S' w' h
  unfold x_sload at h
  split at h
  · rename_i a ha
    cases h
    refine ⟨xLe_rf, ?_⟩
    intro p l e R s m args below meth c Q nL D tys sz b c0 s0 C hG hf hlo h1 h2 ls st H locs cells slots hM hL hS kk
    obtain ⟨u, hu, rfl⟩ := xRL_at hL ha
    exact lv_aload_n C.1 C.2.1 hd rfl hu (kk _ _ _ _ _ _ hM hL ⟨_, _, rfl, rfl, hS⟩)
  · cases h
theorem x_lload_eq {i n : Nat} {call : xC} {L : List (Option xV)} {S : List xV} {w : xW} {r : xS} (h : x_lload i n call L S w = some r) : xget L i = some (some (.inr (.inr 0))) ∧ r = (n, L, .inr (.inr 0) :: S, w) := by
  unfold x_lload at h
  split at h
  · rename_i ha
    exact ⟨ha, (Option.some.inj h).symm⟩
  · cases h
theorem s_lload_n {k : Fin 4} (hd : decode cc pc = .ok (.lload_n k, 1)) : xSound PX G cc own ini pc (x_lload k (pc + 1)) := by
  intro call d hc L S w pc' L' S' w' h
  obtain ⟨ha, hr⟩ := x_lload_eq h
  cases hr
  refine ⟨xLe_rf, ?_⟩
  intro p l e R s m args below meth c Q nL D tys sz b c0 s0 C hG hf hlo h1 h2 ls st H locs cells slots hM hL hS kk
  obtain ⟨u, hu, x, rfl⟩ := xRL_at hL ha
  exact lv_lload_n C.1 C.2.1 hd rfl hu (kk _ _ _ _ _ _ hM hL ⟨_, _, rfl, ⟨_, rfl⟩, hS⟩)
theorem s_lload {i : Nat} (hd : decode cc pc = .ok (.lload i, 2)) : xSound PX G cc own ini pc (x_lload i (pc + 2)) := by
  intro call d hc L S w pc' L' S' w' h
  obtain ⟨ha, hr⟩ := x_lload_eq h
  cases hr
  refine ⟨xLe_rf, ?_⟩
  intro p l e R s m args below meth c Q nL D tys sz b c0 s0 C hG hf hlo h1 h2 ls st H locs cells slots hM hL hS kk
  obtain ⟨u, hu, x, rfl⟩ := xRL_at hL ha
  exact lv_lload C.1 C.2.1 hd hu (kk _ _ _ _ _ _ hM hL ⟨_, _, rfl, ⟨_, rfl⟩, hS⟩)
end XS1
end
section
section XS2
variable {PX : xPX} {G : State → Nat → Nat → Prop} {cc : ByteArray} {own : String} {ini : Bool} {pc : Nat}
theorem xst_eq {L L' : List (Option xV)} {i : Nat} {v : xV} (h : xst L i v = some L') : i < L.length ∧ xlg (xget L (i - 1)) = false ∧ L' = L.set i (some v) := by
  unfold xst at h
  split at h
  · cases h
  · rename_i o ho
    rw [xget_eq] at ho
    cases hb : xlg (xget L (i - 1)) with
    | true => rw [hb] at h; cases h
    | false =>
      rw [hb] at h
      have h := (Option.some.inj h).symm
      rw [xset_eq] at h
      exact ⟨(List.getElem?_eq_some_iff.mp ho).1, rfl, h⟩
/-- a value is stored: what the locals are then -/
theorem xRL_st {sz b nL i : Nat} {L L' : List (Option xV)} {ls : Array Slot} {lv : List (Nat × Value)} {v : xV} {u : Value} (hst : xst L i v = some L') (hlen : L.length = nL) (hl : ∀ (i : Nat) (v : xV), xget L i = some (some v) → ∃ u : Value, (i, u) ∈ lv ∧ xRV sz b v u) (hv : xRV sz b v u) {ls' : Array Slot}
    (h' : lv_has ls' nL ((i, u) :: lv.filter (fun q => !(q.1 == i) && !(q.1 + 1 == i && q.2.category == 2)))) : xRL sz b L' ls' nL := by
  obtain ⟨h1, h2, rfl⟩ := xst_eq hst
  refine ⟨by rw [List.length_set]; exact hlen, _, h', fun j v' hj => ?_⟩
  rw [xget_eq] at hj
  by_cases hji : j = i
  · subst hji
    rw [List.getElem?_set_self h1] at hj
    cases hj
    exact ⟨u, List.mem_cons_self, hv⟩
  · rw [List.getElem?_set_ne (Ne.symm hji), ← xget_eq] at hj
    obtain ⟨u', h3, h4⟩ := hl j v' hj
    refine ⟨u', List.mem_cons_of_mem _ (List.mem_filter.mpr ⟨h3, ?_⟩), h4⟩
    have e1 : (j == i) = false := by simpa using hji
    simp only [e1, Bool.not_false, Bool.true_and]
    by_cases hj1 : j + 1 = i
    · have hv1 : x1 v' = true := by
        have e : xget L (i - 1) = some (some v') := by rw [show i - 1 = j by omega]; exact hj
        rw [e] at h2
        match v', h2 with
        | .inl a, _ => rfl
        | .inr (.inl r), _ => rfl
        | .inr (.inr 0), h2 => cases h2
        | .inr (.inr (k + 1)), _ => rfl
      have hc := xRV1 h4 hv1
      simp [hc]
    · simp [hj1]
theorem x_istore_eq {i n : Nat} {call : xC} {L : List (Option xV)} {S : List xV} {w : xW} {r : xS} (h : x_istore i n call L S w = some r) : ∃ a S0 L1, S = .inl a :: S0 ∧ xst L i (.inl a) = some L1 ∧ r = (n, L1, S0, w) := by
  unfold x_istore at h
  split at h
  · split at h
    · rename_i L1 hL1
      exact ⟨_, _, L1, rfl, hL1, (Option.some.inj h).symm⟩
    · cases h
  · cases h
theorem s_istore_n {k : Fin 4} (hd : decode cc pc = .ok (.istore_n k, 1)) : xSound PX G cc own ini pc (x_istore k (pc + 1)) := by
  intro call d hc L S w pc' L' S' w' h
  obtain ⟨a, S0, L1, rfl, hst, hr⟩ := x_istore_eq h
  cases hr
  refine ⟨xLe_rf, ?_⟩
  intro p l e R s m args below meth c Q nL D tys sz b c0 s0 C hG hf hlo h1 h2 ls st H locs cells slots hM hL hS kk
  obtain ⟨u, st', rfl, ⟨x, rfl, hx⟩, hS⟩ := hS
  obtain ⟨hlen, lv, hlv, hl⟩ := hL
  exact lv_istore_n C.1 C.2.1 hd rfl hlv (hlen ▸ (xst_eq hst).1) rfl (fun ls' h' => kk _ _ _ _ _ _ hM (xRL_st (ls := ls) hst hlen hl ⟨x, rfl, hx⟩ h') hS)
theorem s_istore {i : Nat} (hd : decode cc pc = .ok (.istore i, 2)) : xSound PX G cc own ini pc (x_istore i (pc + 2)) := by
  intro call d hc L S w pc' L' S' w' h
  obtain ⟨a, S0, L1, rfl, hst, hr⟩ := x_istore_eq h
  cases hr
  refine ⟨xLe_rf, ?_⟩
  intro p l e R s m args below meth c Q nL D tys sz b c0 s0 C hG hf hlo h1 h2 ls st H locs cells slots hM hL hS kk
  obtain ⟨u, st', rfl, ⟨x, rfl, hx⟩, hS⟩ := hS
  obtain ⟨hlen, lv, hlv, hl⟩ := hL
  exact lv_istore C.1 C.2.1 hd hlv (hlen ▸ (xst_eq hst).1) rfl (fun ls' h' => kk _ _ _ _ _ _ hM (xRL_st (ls := ls) hst hlen hl ⟨x, rfl, hx⟩ h') hS)
theorem x_astore_eq {i n : Nat} {call : xC} {L : List (Option xV)} {S : List xV} {w : xW} {r : xS} (h : x_astore i n call L S w = some r) : ∃ a S0 L1, S = .inr (.inl a) :: S0 ∧ xst L i (.inr (.inl a)) = some L1 ∧ r = (n, L1, S0, w) := by
  unfold x_astore at h
  split at h
  · split at h
    · rename_i L1 hL1
      exact ⟨_, _, L1, rfl, hL1, (Option.some.inj h).symm⟩
    · cases h
  · cases h
theorem s_astore_n {k : Fin 4} (hd : decode cc pc = .ok (.astore_n k, 1)) : xSound PX G cc own ini pc (x_astore k (pc + 1)) := by
  intro call d hc L S w pc' L' S' w' h
  obtain ⟨a, S0, L1, rfl, hst, hr⟩ := x_astore_eq h
  cases hr
  refine ⟨xLe_rf, ?_⟩
  intro p l e R s m args below meth c Q nL D tys sz b c0 s0 C hG hf hlo h1 h2 ls st H locs cells slots hM hL hS kk
  obtain ⟨u, st', rfl, hu, hS⟩ := hS
  obtain ⟨hlen, lv, hlv, hl⟩ := hL
  cases a with
  | none =>
    cases hu
    exact lv_astore_nN C.1 C.2.1 hd rfl hlv (hlen ▸ (xst_eq hst).1) rfl (fun ls' h' => kk _ _ _ _ _ _ hM (xRL_st (ls := ls) (u := .null) hst hlen hl rfl h') hS)
  | some a =>
    cases hu
    exact lv_astore_n C.1 C.2.1 hd rfl hlv (hlen ▸ (xst_eq hst).1) rfl (fun ls' h' => kk _ _ _ _ _ _ hM (xRL_st (ls := ls) (u := .ref (sz + a)) hst hlen hl rfl h') hS)
theorem s_astore {i : Nat} (hd : decode cc pc = .ok (.astore i, 2)) : xSound PX G cc own ini pc (x_astore i (pc + 2)) := by
  intro call d hc L S w pc' L' S' w' h
  obtain ⟨a, S0, L1, rfl, hst, hr⟩ := x_astore_eq h
  cases hr
  refine ⟨xLe_rf, ?_⟩
  intro p l e R s m args below meth c Q nL D tys sz b c0 s0 C hG hf hlo h1 h2 ls st H locs cells slots hM hL hS kk
  obtain ⟨u, st', rfl, hu, hS⟩ := hS
  obtain ⟨hlen, lv, hlv, hl⟩ := hL
  cases a with
  | none =>
    cases hu
    exact lv_astoreN C.1 C.2.1 hd hlv (hlen ▸ (xst_eq hst).1) rfl (fun ls' h' => kk _ _ _ _ _ _ hM (xRL_st (ls := ls) (u := .null) hst hlen hl rfl h') hS)
  | some a =>
    cases hu
    exact lv_astore C.1 C.2.1 hd hlv (hlen ▸ (xst_eq hst).1) rfl (fun ls' h' => kk _ _ _ _ _ _ hM (xRL_st (ls := ls) (u := .ref (sz + a)) hst hlen hl rfl h') hS)
theorem s_iinc {i : Nat} {n : Int} {k : Nat} (hd : decode cc pc = .ok (.iinc i n, 3)) (hk : xo (Int32.ofInt n) = k) : xSound PX G cc own ini pc (x_iinc i k (pc + 3)) := by
  intro call d hc L S w pc' L' S' w' h
  unfold x_iinc at h
  split at h
  · rename_i a ha
    split at h
    · rename_i L1 hst
      cases h
      refine ⟨xLe_rf, ?_⟩
      intro p l e R s m args below meth c Q nL D tys sz b c0 s0 C hG hf hlo h1 h2 ls st H locs cells slots hM hL hS kk
      obtain ⟨hlen, lv, hlv, hl⟩ := hL
      obtain ⟨u, hm, x, rfl, hx⟩ := hl i _ ha
      obtain ⟨q, hq⟩ := List.getElem?_of_mem hm
      exact lv_iinc C.1 C.2.1 hd hlv hq rfl (hlen ▸ (xst_eq hst).1) rfl (fun ls' h' => kk _ _ _ _ _ _ hM (xRL_st (ls := ls) hst hlen hl ⟨_, rfl, xbin_ok hx (hk ▸ xRI_c (Int32.ofInt n)) (xo_add _ _)⟩ h') hS)
    · cases h
  · cases h
theorem x_bin_eq {f : Nat → Nat → Nat} {n : Nat} {call : xC} {L : List (Option xV)} {S : List xV} {w : xW} {r : xS} (h : x_bin f n call L S w = some r) : ∃ b a S0, S = .inl b :: .inl a :: S0 ∧ r = (n, L, .inl (xbin f a b) :: S0, w) := by
  unfold x_bin at h
  split at h
  · exact ⟨_, _, _, rfl, (Option.some.inj h).symm⟩
  · cases h
theorem s_iadd (hd : decode cc pc = .ok (.iadd, 1)) : xSound PX G cc own ini pc (x_bin xfadd (pc + 1)) := by
  intro call d hc L S w pc' L' S' w' h
  obtain ⟨b2, a2, S0, rfl, hr⟩ := x_bin_eq h
  cases hr
  refine ⟨xLe_rf, ?_⟩
  intro p l e R s m args below meth c Q nL D tys sz b c0 s0 C hG hf hlo h1 h2 ls st H locs cells slots hM hL hS kk
  obtain ⟨u, st', rfl, ⟨y, rfl, hy⟩, u2, st2, rfl, ⟨x, rfl, hx⟩, hS⟩ := hS
  exact lv_iadd C.1 C.2.1 hd (kk _ _ _ _ _ _ hM hL ⟨_, _, rfl, ⟨_, rfl, xbin_ok hx hy (xo_add x y)⟩, hS⟩)
theorem s_isub (hd : decode cc pc = .ok (.isub, 1)) : xSound PX G cc own ini pc (x_bin xfsub (pc + 1)) := by
  intro call d hc L S w pc' L' S' w' h
  obtain ⟨b2, a2, S0, rfl, hr⟩ := x_bin_eq h
  cases hr
  refine ⟨xLe_rf, ?_⟩
  intro p l e R s m args below meth c Q nL D tys sz b c0 s0 C hG hf hlo h1 h2 ls st H locs cells slots hM hL hS kk
  obtain ⟨u, st', rfl, ⟨y, rfl, hy⟩, u2, st2, rfl, ⟨x, rfl, hx⟩, hS⟩ := hS
  exact lv_isub C.1 C.2.1 hd (kk _ _ _ _ _ _ hM hL ⟨_, _, rfl, ⟨_, rfl, xbin_ok hx hy (xo_sub x y)⟩, hS⟩)
theorem s_imul (hd : decode cc pc = .ok (.imul, 1)) : xSound PX G cc own ini pc (x_bin (xfg (fun x y => x * y)) (pc + 1)) := by
  intro call d hc L S w pc' L' S' w' h
  obtain ⟨b2, a2, S0, rfl, hr⟩ := x_bin_eq h
  cases hr
  refine ⟨xLe_rf, ?_⟩
  intro p l e R s m args below meth c Q nL D tys sz b c0 s0 C hG hf hlo h1 h2 ls st H locs cells slots hM hL hS kk
  obtain ⟨u, st', rfl, ⟨y, rfl, hy⟩, u2, st2, rfl, ⟨x, rfl, hx⟩, hS⟩ := hS
  exact lv_imul C.1 C.2.1 hd (kk _ _ _ _ _ _ hM hL ⟨_, _, rfl, ⟨_, rfl, xbin_ok hx hy (xfg_ok (fun x y => x * y) x y)⟩, hS⟩)
theorem s_iand (hd : decode cc pc = .ok (.iand, 1)) : xSound PX G cc own ini pc (x_bin (xfg (fun x y => x &&& y)) (pc + 1)) := by
  intro call d hc L S w pc' L' S' w' h
  obtain ⟨b2, a2, S0, rfl, hr⟩ := x_bin_eq h
  cases hr
  refine ⟨xLe_rf, ?_⟩
  intro p l e R s m args below meth c Q nL D tys sz b c0 s0 C hG hf hlo h1 h2 ls st H locs cells slots hM hL hS kk
  obtain ⟨u, st', rfl, ⟨y, rfl, hy⟩, u2, st2, rfl, ⟨x, rfl, hx⟩, hS⟩ := hS
  exact lv_iand C.1 C.2.1 hd (kk _ _ _ _ _ _ hM hL ⟨_, _, rfl, ⟨_, rfl, xbin_ok hx hy (xfg_ok (fun x y => x &&& y) x y)⟩, hS⟩)
theorem s_ior (hd : decode cc pc = .ok (.ior, 1)) : xSound PX G cc own ini pc (x_bin (xfg (fun x y => x ||| y)) (pc + 1)) := by
  intro call d hc L S w pc' L' S' w' h
  obtain ⟨b2, a2, S0, rfl, hr⟩ := x_bin_eq h
  cases hr
  refine ⟨xLe_rf, ?_⟩
  intro p l e R s m args below meth c Q nL D tys sz b c0 s0 C hG hf hlo h1 h2 ls st H locs cells slots hM hL hS kk
  obtain ⟨u, st', rfl, ⟨y, rfl, hy⟩, u2, st2, rfl, ⟨x, rfl, hx⟩, hS⟩ := hS
  exact lv_ior C.1 C.2.1 hd (kk _ _ _ _ _ _ hM hL ⟨_, _, rfl, ⟨_, rfl, xbin_ok hx hy (xfg_ok (fun x y => x ||| y) x y)⟩, hS⟩)
theorem s_ixor (hd : decode cc pc = .ok (.ixor, 1)) : xSound PX G cc own ini pc (x_bin (xfg (fun x y => x ^^^ y)) (pc + 1)) := by
  intro call d hc L S w pc' L' S' w' h
  obtain ⟨b2, a2, S0, rfl, hr⟩ := x_bin_eq h
  cases hr
  refine ⟨xLe_rf, ?_⟩
  intro p l e R s m args below meth c Q nL D tys sz b c0 s0 C hG hf hlo h1 h2 ls st H locs cells slots hM hL hS kk
  obtain ⟨u, st', rfl, ⟨y, rfl, hy⟩, u2, st2, rfl, ⟨x, rfl, hx⟩, hS⟩ := hS
  exact lv_ixor C.1 C.2.1 hd (kk _ _ _ _ _ _ hM hL ⟨_, _, rfl, ⟨_, rfl, xbin_ok hx hy (xfg_ok (fun x y => x ^^^ y) x y)⟩, hS⟩)
theorem s_ishl (hd : decode cc pc = .ok (.ishl, 1)) : xSound PX G cc own ini pc (x_bin (xfg (fun x y => x <<< (y &&& 31))) (pc + 1)) := by
  intro call d hc L S w pc' L' S' w' h
  obtain ⟨b2, a2, S0, rfl, hr⟩ := x_bin_eq h
  cases hr
  refine ⟨xLe_rf, ?_⟩
  intro p l e R s m args below meth c Q nL D tys sz b c0 s0 C hG hf hlo h1 h2 ls st H locs cells slots hM hL hS kk
  obtain ⟨u, st', rfl, ⟨y, rfl, hy⟩, u2, st2, rfl, ⟨x, rfl, hx⟩, hS⟩ := hS
  exact lv_ishl C.1 C.2.1 hd (kk _ _ _ _ _ _ hM hL ⟨_, _, rfl, ⟨_, rfl, xbin_ok hx hy (xfg_ok (fun x y => x <<< (y &&& 31)) x y)⟩, hS⟩)
theorem s_ishr (hd : decode cc pc = .ok (.ishr, 1)) : xSound PX G cc own ini pc (x_bin (xfg (fun x y => x >>> (y &&& 31))) (pc + 1)) := by
  intro call d hc L S w pc' L' S' w' h
  obtain ⟨b2, a2, S0, rfl, hr⟩ := x_bin_eq h
  cases hr
  refine ⟨xLe_rf, ?_⟩
  intro p l e R s m args below meth c Q nL D tys sz b c0 s0 C hG hf hlo h1 h2 ls st H locs cells slots hM hL hS kk
  obtain ⟨u, st', rfl, ⟨y, rfl, hy⟩, u2, st2, rfl, ⟨x, rfl, hx⟩, hS⟩ := hS
  exact lv_ishr C.1 C.2.1 hd (kk _ _ _ _ _ _ hM hL ⟨_, _, rfl, ⟨_, rfl, xbin_ok hx hy (xfg_ok (fun x y => x >>> (y &&& 31)) x y)⟩, hS⟩)
theorem s_iushr (hd : decode cc pc = .ok (.iushr, 1)) : xSound PX G cc own ini pc (x_bin (xfg (fun x y => (x.toUInt32 >>> (y.toUInt32 &&& Int32.toUInt32 31)).toInt32)) (pc + 1)) := by
  intro call d hc L S w pc' L' S' w' h
  obtain ⟨b2, a2, S0, rfl, hr⟩ := x_bin_eq h
  cases hr
  refine ⟨xLe_rf, ?_⟩
  intro p l e R s m args below meth c Q nL D tys sz b c0 s0 C hG hf hlo h1 h2 ls st H locs cells slots hM hL hS kk
  obtain ⟨u, st', rfl, ⟨y, rfl, hy⟩, u2, st2, rfl, ⟨x, rfl, hx⟩, hS⟩ := hS
  exact lv_iushr C.1 C.2.1 hd rfl (kk _ _ _ _ _ _ hM hL ⟨_, _, rfl, ⟨_, rfl, xbin_ok hx hy (xfg_ok (fun x y => (x.toUInt32 >>> (y.toUInt32 &&& Int32.toUInt32 31)).toInt32) x y)⟩, hS⟩)
theorem s_irem (hd : decode cc pc = .ok (.irem, 1)) : xSound PX G cc own ini pc (x_rem (pc + 1)) := by
  intro call d hc L S w pc' L' S' w' h
  unfold x_rem at h
  split at h
  · rename_i b2 a2 S0
    cases hcnd : (Nat.beq a2.1 a2.2 && (Nat.beq b2.1 b2.2 && (Nat.ble 2147483648 a2.1 && Nat.blt 2147483648 b2.1))) with
    | false => rw [hcnd] at h; cases h
    | true =>
      rw [hcnd] at h
      cases h
      simp only [Bool.and_eq_true, Nat.beq_eq] at hcnd
      obtain ⟨q1, q2, q3, q4⟩ := hcnd
      have q3 := xble q3
      have q4 := xblt q4
      refine ⟨xLe_rf, ?_⟩
      intro p l e R s m args below meth c Q nL D tys sz b c0 s0 C hG hf hlo h1 h2 ls st H locs cells slots hM hL hS kk
      obtain ⟨u, st', rfl, ⟨y, rfl, hy⟩, u2, st2, rfl, ⟨x, rfl, hx⟩, hS⟩ := hS
      have ex : xo x = a2.1 := Nat.le_antisymm (by rw [q1]; exact hx.2) hx.1
      have ey : xo y = b2.1 := Nat.le_antisymm (by rw [q2]; exact hy.2) hy.1
      have lx := xo_lt x
      have ly := xo_lt y
      have nx : x = nI (a2.1 - 2147483648) := xo_inj (by rw [ex, show nI (a2.1 - 2147483648) = Int32.ofNat (a2.1 - 2147483648) from rfl, xo_nat (by omega)]; omega)
      have ny : y = nI (b2.1 - 2147483648) := xo_inj (by rw [ey, show nI (b2.1 - 2147483648) = Int32.ofNat (b2.1 - 2147483648) from rfl, xo_nat (by omega)]; omega)
      have hlt : (a2.1 - 2147483648) % (b2.1 - 2147483648) < b2.1 - 2147483648 := Nat.mod_lt _ (by omega)
      have er : xo (x - x / y * y) = 2147483648 + (a2.1 - 2147483648) % (b2.1 - 2147483648) := by
        rw [nx, ny, pk_rem (by omega) (by omega) (by omega)]
        rw [show nI ((a2.1 - 2147483648) % (b2.1 - 2147483648)) = Int32.ofNat ((a2.1 - 2147483648) % (b2.1 - 2147483648)) from rfl, xo_nat (by omega)]
        omega
      have hy0 : ¬ y = 0 := fun q => by rw [q, xo_zero] at ey; omega
      exact lv_irem C.1 C.2.1 hd hy0 (kk _ _ _ _ _ _ hM hL ⟨_, _, rfl, ⟨_, rfl, by rw [← er]; exact xRI_c _⟩, hS⟩)
  · cases h
theorem s_i2b (hd : decode cc pc = .ok (.i2b, 1)) : xSound PX G cc own ini pc (x_un (fun o => xo ((xi o).toInt8.toInt32)) (pc + 1)) := by
  intro call d hc L S w pc' L' S' w' h
  unfold x_un at h
  split at h
  · cases h
    refine ⟨xLe_rf, ?_⟩
    intro p l e R s m args below meth c Q nL D tys sz b c0 s0 C hG hf hlo h1 h2 ls st H locs cells slots hM hL hS kk
    obtain ⟨u, st', rfl, ⟨x, rfl, hx⟩, hS⟩ := hS
    exact lv_i2b C.1 C.2.1 hd rfl (kk _ _ _ _ _ _ hM hL ⟨_, _, rfl, ⟨_, rfl, xun_ok hx (by rw [xi_xo])⟩, hS⟩)
  · cases h
theorem s_i2l (hd : decode cc pc = .ok (.i2l, 1)) : xSound PX G cc own ini pc (x_i2l (pc + 1)) := by
  intro call d hc L S w pc' L' S' w' h
  unfold x_i2l at h
  split at h
  · cases h
    refine ⟨xLe_rf, ?_⟩
    intro p l e R s m args below meth c Q nL D tys sz b c0 s0 C hG hf hlo h1 h2 ls st H locs cells slots hM hL hS kk
    obtain ⟨u, st', rfl, ⟨x, rfl, hx⟩, hS⟩ := hS
    exact lv_i2l C.1 C.2.1 hd rfl (kk _ _ _ _ _ _ hM hL ⟨_, _, rfl, ⟨_, rfl⟩, hS⟩)
  · cases h
theorem x_lbin_eq {n : Nat} {call : xC} {L : List (Option xV)} {S : List xV} {w : xW} {r : xS} (h : x_lbin n call L S w = some r) : ∃ S0, S = .inr (.inr 0) :: .inr (.inr 0) :: S0 ∧ r = (n, L, .inr (.inr 0) :: S0, w) := by
  unfold x_lbin at h
  split at h
  · exact ⟨_, rfl, (Option.some.inj h).symm⟩
  · cases h
theorem s_ladd (hd : decode cc pc = .ok (.ladd, 1)) : xSound PX G cc own ini pc (x_lbin (pc + 1)) := by
  intro call d hc L S w pc' L' S' w' h
  obtain ⟨S0, rfl, hr⟩ := x_lbin_eq h
  cases hr
  refine ⟨xLe_rf, ?_⟩
  intro p l e R s m args below meth c Q nL D tys sz b c0 s0 C hG hf hlo h1 h2 ls st H locs cells slots hM hL hS kk
  obtain ⟨u, st', rfl, ⟨y, rfl⟩, u2, st2, rfl, ⟨x, rfl⟩, hS⟩ := hS
  exact lv_ladd C.1 C.2.1 hd (kk _ _ _ _ _ _ hM hL ⟨_, _, rfl, ⟨_, rfl⟩, hS⟩)
theorem s_lmul (hd : decode cc pc = .ok (.lmul, 1)) : xSound PX G cc own ini pc (x_lbin (pc + 1)) := by
  intro call d hc L S w pc' L' S' w' h
  obtain ⟨S0, rfl, hr⟩ := x_lbin_eq h
  cases hr
  refine ⟨xLe_rf, ?_⟩
  intro p l e R s m args below meth c Q nL D tys sz b c0 s0 C hG hf hlo h1 h2 ls st H locs cells slots hM hL hS kk
  obtain ⟨u, st', rfl, ⟨y, rfl⟩, u2, st2, rfl, ⟨x, rfl⟩, hS⟩ := hS
  exact lv_lmul C.1 C.2.1 hd (kk _ _ _ _ _ _ hM hL ⟨_, _, rfl, ⟨_, rfl⟩, hS⟩)
theorem s_dup (hd : decode cc pc = .ok (.dup, 1)) : xSound PX G cc own ini pc (x_dup (pc + 1)) := by
  intro call d hc L S w pc' L' S' w' h
  unfold x_dup at h
  split at h
  · rename_i v S0
    cases hv : x1 v with
    | false => rw [hv] at h; cases h
    | true =>
      rw [hv] at h
      cases h
      refine ⟨xLe_rf, ?_⟩
      intro p l e R s m args below meth c Q nL D tys sz b c0 s0 C hG hf hlo h1 h2 ls st H locs cells slots hM hL hS kk
      obtain ⟨u, st', rfl, hu, hS⟩ := hS
      exact lv_dup C.1 C.2.1 hd (xRV1 hu hv) (kk _ _ _ _ _ _ hM hL ⟨_, _, rfl, hu, _, _, rfl, hu, hS⟩)
  · cases h
theorem s_dup2 (hd : decode cc pc = .ok (.dup2, 1)) : xSound PX G cc own ini pc (x_dup2 (pc + 1)) := by
  intro call d hc L S w pc' L' S' w' h
  unfold x_dup2 at h
  split at h
  · rename_i v u0 S0
    cases hv : (x1 v && x1 u0) with
    | false => rw [hv] at h; cases h
    | true =>
      rw [hv] at h
      cases h
      simp only [Bool.and_eq_true] at hv
      refine ⟨xLe_rf, ?_⟩
      intro p l e R s m args below meth c Q nL D tys sz b c0 s0 C hG hf hlo h1 h2 ls st H locs cells slots hM hL hS kk
      obtain ⟨u, st', rfl, hu, u2, st2, rfl, hu2, hS⟩ := hS
      exact lv_dup2_11 C.1 C.2.1 hd (xRV1 hu hv.1) (xRV1 hu2 hv.2) (kk _ _ _ _ _ _ hM hL ⟨_, _, rfl, hu, _, _, rfl, hu2, _, _, rfl, hu, _, _, rfl, hu2, hS⟩)
  · cases h
theorem s_goto {off : Int} {t : Nat} (hd : decode cc pc = .ok (.goto off, 3)) (ht : (pc : Int) + off = (t : Int)) : xSound PX G cc own ini pc (x_goto t) := by
  intro call d hc L S w pc' L' S' w' h
  cases h
  refine ⟨xLe_rf, ?_⟩
  intro p l e R s m args below meth c Q nL D tys sz b c0 s0 C hG hf hlo h1 h2 ls st H locs cells slots hM hL hS kk
  exact lv_goto C.1 C.2.1 hd ht (kk _ _ _ _ _ _ hM hL hS)
theorem s_ifnonnull {off : Int} {t : Nat} (hd : decode cc pc = .ok (.ifnonnull off, 3)) (ht : (pc : Int) + off = (t : Int)) : xSound PX G cc own ini pc (x_ifnonnull t (pc + 3)) := by
  intro call d hc L S w pc' L' S' w' h
  unfold x_ifnonnull at h
  split at h
  · cases h
    refine ⟨xLe_rf, ?_⟩
    intro p l e R s m args below meth c Q nL D tys sz b c0 s0 C hG hf hlo h1 h2 ls st H locs cells slots hM hL hS kk
    obtain ⟨u, st', rfl, hu, hS⟩ := hS
    cases hu
    exact lv_ifnonnullN C.1 C.2.1 hd (kk _ _ _ _ _ _ hM hL hS)
  · cases h
    refine ⟨xLe_rf, ?_⟩
    intro p l e R s m args below meth c Q nL D tys sz b c0 s0 C hG hf hlo h1 h2 ls st H locs cells slots hM hL hS kk
    obtain ⟨u, st', rfl, hu, hS⟩ := hS
    cases hu
    exact lv_ifnonnull C.1 C.2.1 hd ht (kk _ _ _ _ _ _ hM hL hS)
  · cases h
/-- the branch on an int -/
theorem x_if_eq {op t n : Nat} {call : xC} {L : List (Option xV)} {S : List xV} {w : xW} {r : xS} (h : x_if op t n call L S w = some r) : ∃ a S0 q, S = .inl a :: S0 ∧ xcmp op a (2147483648, 2147483648) = some q ∧ r = (bif q then t else n, L, S0, w) := by
  unfold x_if at h
  split at h
  · split at h
    · rename_i hq; exact ⟨_, _, true, rfl, hq, (Option.some.inj h).symm⟩
    · rename_i hq; exact ⟨_, _, false, rfl, hq, (Option.some.inj h).symm⟩
    · cases h
  · cases h
theorem x_icmp_eq {op t n : Nat} {call : xC} {L : List (Option xV)} {S : List xV} {w : xW} {r : xS} (h : x_icmp op t n call L S w = some r) : ∃ b a S0 q, S = .inl b :: .inl a :: S0 ∧ xcmp op a b = some q ∧ r = (bif q then t else n, L, S0, w) := by
  unfold x_icmp at h
  split at h
  · split at h
    · rename_i hq; exact ⟨_, _, _, true, rfl, hq, (Option.some.inj h).symm⟩
    · rename_i hq; exact ⟨_, _, _, false, rfl, hq, (Option.some.inj h).symm⟩
    · cases h
  · cases h
theorem xRI_z : xRI (2147483648, 2147483648) 0 := by
  have h := xRI_c 0
  rw [xo_zero] at h
  exact h
theorem s_if {op : Nat} {t n : Nat} (hrow : ∀ (p : Program) (l : Launch) (e : Env) (R : Room) (s : State) (m : MethodId) (args : Array Value) (below : List Frame) (meth : Method) (c : Code) (H : Heap) (locs : List Loc) (cells slots : Nat) (Q : State → Prop) (ls : Array Slot) (rest : List Value) (x : Int32), p.tables.exec = Jvm.exec → c.code = cc → (xcmpP op x 0 → W p l e R s m args below meth c H locs cells slots Q (F0 m t ls rest)) → (¬ xcmpP op x 0 → W p l e R s m args below meth c H locs cells slots Q (F0 m n ls rest)) → W p l e R s m args below meth c H locs cells slots Q (F0 m pc ls (.int x :: rest))) :
    xSound PX G cc own ini pc (x_if op t n) := by
  intro call d hc L S w pc' L' S' w' h
  obtain ⟨a, S0, q, rfl, hq, hr⟩ := x_if_eq h
  cases hr
  refine ⟨xLe_rf, ?_⟩
  intro p l e R s m args below meth c Q nL D tys sz b c0 s0 C hG hf hlo h1 h2 ls st H locs cells slots hM hL hS kk
  obtain ⟨u, st', rfl, ⟨x, rfl, hx⟩, hS⟩ := hS
  have hk := xcmp_ok hx xRI_z hq
  cases q with
  | true => exact hrow _ _ _ _ _ _ _ _ _ _ _ _ _ _ _ _ _ _ C.1 C.2.1 (fun _ => kk _ _ _ _ _ _ hM hL hS) (fun z => absurd (hk.1 rfl) z)
  | false => exact hrow _ _ _ _ _ _ _ _ _ _ _ _ _ _ _ _ _ _ C.1 C.2.1 (fun z => absurd z (hk.2 rfl)) (fun _ => kk _ _ _ _ _ _ hM hL hS)
theorem s_icmp {op : Nat} {t n : Nat} (hrow : ∀ (p : Program) (l : Launch) (e : Env) (R : Room) (s : State) (m : MethodId) (args : Array Value) (below : List Frame) (meth : Method) (c : Code) (H : Heap) (locs : List Loc) (cells slots : Nat) (Q : State → Prop) (ls : Array Slot) (rest : List Value) (x y : Int32), p.tables.exec = Jvm.exec → c.code = cc → (xcmpP op x y → W p l e R s m args below meth c H locs cells slots Q (F0 m t ls rest)) → (¬ xcmpP op x y → W p l e R s m args below meth c H locs cells slots Q (F0 m n ls rest)) → W p l e R s m args below meth c H locs cells slots Q (F0 m pc ls (.int y :: .int x :: rest))) :
    xSound PX G cc own ini pc (x_icmp op t n) := by
  intro call d hc L S w pc' L' S' w' h
  obtain ⟨b2, a, S0, q, rfl, hq, hr⟩ := x_icmp_eq h
  cases hr
  refine ⟨xLe_rf, ?_⟩
  intro p l e R s m args below meth c Q nL D tys sz b c0 s0 C hG hf hlo h1 h2 ls st H locs cells slots hM hL hS kk
  obtain ⟨u, st', rfl, ⟨y, rfl, hy⟩, u2, st2, rfl, ⟨x, rfl, hx⟩, hS⟩ := hS
  have hk := xcmp_ok hx hy hq
  cases q with
  | true => exact hrow _ _ _ _ _ _ _ _ _ _ _ _ _ _ _ _ _ _ _ C.1 C.2.1 (fun _ => kk _ _ _ _ _ _ hM hL hS) (fun z => absurd (hk.1 rfl) z)
  | false => exact hrow _ _ _ _ _ _ _ _ _ _ _ _ _ _ _ _ _ _ _ C.1 C.2.1 (fun z => absurd z (hk.2 rfl)) (fun _ => kk _ _ _ _ _ _ hM hL hS)
theorem s_ifeq {off : Int} {t : Nat} (hd : decode cc pc = .ok (.ifCond .eq off, 3)) (ht : (pc : Int) + off = (t : Int)) : xSound PX G cc own ini pc (x_if 0 t (pc + 3)) := s_if (fun _ _ _ _ _ _ _ _ _ _ _ _ _ _ _ _ _ _ hx hb a b => lv_if_eq hx hb hd ht a b)
theorem s_ifne {off : Int} {t : Nat} (hd : decode cc pc = .ok (.ifCond .ne off, 3)) (ht : (pc : Int) + off = (t : Int)) : xSound PX G cc own ini pc (x_if 1 t (pc + 3)) := s_if (fun _ _ _ _ _ _ _ _ _ _ _ _ _ _ _ _ _ _ hx hb a b => lv_if_ne hx hb hd ht a (fun q => b (fun n => n q)))
theorem s_iflt {off : Int} {t : Nat} (hd : decode cc pc = .ok (.ifCond .lt off, 3)) (ht : (pc : Int) + off = (t : Int)) : xSound PX G cc own ini pc (x_if 2 t (pc + 3)) := s_if (fun _ _ _ _ _ _ _ _ _ _ _ _ _ _ _ _ _ _ hx hb a b => lv_if_lt hx hb hd ht a b)
theorem s_ifge {off : Int} {t : Nat} (hd : decode cc pc = .ok (.ifCond .ge off, 3)) (ht : (pc : Int) + off = (t : Int)) : xSound PX G cc own ini pc (x_if 3 t (pc + 3)) := s_if (fun _ _ _ _ _ _ _ _ _ _ _ _ _ _ _ _ _ _ hx hb a b => lv_if_ge hx hb hd ht a b)
theorem s_ifgt {off : Int} {t : Nat} (hd : decode cc pc = .ok (.ifCond .gt off, 3)) (ht : (pc : Int) + off = (t : Int)) : xSound PX G cc own ini pc (x_if 4 t (pc + 3)) := s_if (fun _ _ _ _ _ _ _ _ _ _ _ _ _ _ _ _ _ _ hx hb a b => lv_if_gt hx hb hd ht a b)
theorem s_ifle {off : Int} {t : Nat} (hd : decode cc pc = .ok (.ifCond .le off, 3)) (ht : (pc : Int) + off = (t : Int)) : xSound PX G cc own ini pc (x_if 5 t (pc + 3)) := s_if (fun _ _ _ _ _ _ _ _ _ _ _ _ _ _ _ _ _ _ hx hb a b => lv_if_le hx hb hd ht a b)
theorem s_icmpeq {off : Int} {t : Nat} (hd : decode cc pc = .ok (.if_icmp .eq off, 3)) (ht : (pc : Int) + off = (t : Int)) : xSound PX G cc own ini pc (x_icmp 0 t (pc + 3)) := s_icmp (fun _ _ _ _ _ _ _ _ _ _ _ _ _ _ _ _ _ _ _ hx hb a b => lv_icmp_eq hx hb hd ht a b)
theorem s_icmpne {off : Int} {t : Nat} (hd : decode cc pc = .ok (.if_icmp .ne off, 3)) (ht : (pc : Int) + off = (t : Int)) : xSound PX G cc own ini pc (x_icmp 1 t (pc + 3)) := s_icmp (fun _ _ _ _ _ _ _ _ _ _ _ _ _ _ _ _ _ _ _ hx hb a b => lv_icmp_ne hx hb hd ht a (fun q => b (fun n => n q)))
theorem s_icmplt {off : Int} {t : Nat} (hd : decode cc pc = .ok (.if_icmp .lt off, 3)) (ht : (pc : Int) + off = (t : Int)) : xSound PX G cc own ini pc (x_icmp 2 t (pc + 3)) := s_icmp (fun _ _ _ _ _ _ _ _ _ _ _ _ _ _ _ _ _ _ _ hx hb a b => lv_icmp_lt hx hb hd ht a b)
theorem s_icmpge {off : Int} {t : Nat} (hd : decode cc pc = .ok (.if_icmp .ge off, 3)) (ht : (pc : Int) + off = (t : Int)) : xSound PX G cc own ini pc (x_icmp 3 t (pc + 3)) := s_icmp (fun _ _ _ _ _ _ _ _ _ _ _ _ _ _ _ _ _ _ _ hx hb a b => lv_icmp_ge hx hb hd ht a b)
theorem s_icmpgt {off : Int} {t : Nat} (hd : decode cc pc = .ok (.if_icmp .gt off, 3)) (ht : (pc : Int) + off = (t : Int)) : xSound PX G cc own ini pc (x_icmp 4 t (pc + 3)) := s_icmp (fun _ _ _ _ _ _ _ _ _ _ _ _ _ _ _ _ _ _ _ hx hb a b => lv_icmp_gt hx hb hd ht a b)
theorem s_icmple {off : Int} {t : Nat} (hd : decode cc pc = .ok (.if_icmp .le off, 3)) (ht : (pc : Int) + off = (t : Int)) : xSound PX G cc own ini pc (x_icmp 5 t (pc + 3)) := s_icmp (fun _ _ _ _ _ _ _ _ _ _ _ _ _ _ _ _ _ _ _ hx hb a b => lv_icmp_le hx hb hd ht a b)
theorem s_tsw {dflt lo hi : Int} {offs : Array Int} {len : Nat} {k df : Nat} {ts : List Nat} (hd : decode cc pc = .ok (.tableswitch dflt lo hi offs, len)) (hk : lo + 2147483648 = (k : Int)) (hh : hi + 1 = lo + (ts.length : Int)) (hdf : (pc : Int) + dflt = (df : Int)) (hts : ∀ (i t : Nat), xget ts i = some t → ∃ off, offs[i]? = some off ∧ (pc : Int) + off = (t : Int)) : xSound PX G cc own ini pc (x_tsw k ts df) := by
  intro call d hc L S w pc' L' S' w' h
  unfold x_tsw at h
  split at h
  · rename_i a S0
    cases hc1 : (Nat.blt a.2 k || Nat.ble (k + ts.length) a.1) with
    | true =>
      rw [hc1] at h
      cases h
      refine ⟨xLe_rf, ?_⟩
      intro p l e R s m args below meth c Q nL D tys sz b c0 s0 C hG hf hlo h1 h2 ls st H locs cells slots hM hL hS kk
      obtain ⟨u, st', rfl, ⟨x, rfl, hx⟩, hS⟩ := hS
      have hxi := xo_int x
      refine lv_tableOut C.1 C.2.1 hd ?_ hdf (kk _ _ _ _ _ _ hM hL hS)
      obtain ⟨x1, x2⟩ := hx
      simp only [Bool.or_eq_true] at hc1
      rcases hc1 with q | q
      · have := xblt q; left; omega
      · have := xble q; right; omega
    | false =>
      rw [hc1] at h
      cases hc2 : Nat.beq a.1 a.2 with
      | false => rw [hc2] at h; cases h
      | true =>
        rw [hc2] at h
        have e2 := Nat.eq_of_beq_eq_true hc2
        cases ht : xget ts (a.1 - k) with
        | none => simp only [ht] at h; cases h
        | some t =>
          simp only [ht] at h
          cases h
          refine ⟨xLe_rf, ?_⟩
          intro p l e R s m args below meth c Q nL D tys sz b c0 s0 C hG hf hlo h1 h2 ls st H locs cells slots hM hL hS kk
          obtain ⟨u, st', rfl, ⟨x, rfl, hx⟩, hS⟩ := hS
          have hxi := xo_int x
          obtain ⟨x1, x2⟩ := hx
          obtain ⟨off, ho, htg⟩ := hts _ _ ht
          have hl : a.1 - k < ts.length := by rw [xget_eq] at ht; exact (List.getElem?_eq_some_iff.mp ht).1
          simp only [Bool.or_eq_false_iff] at hc1
          have n1 : k ≤ a.2 := by
            rcases Nat.lt_or_ge a.2 k with q | q
            · have : Nat.blt a.2 k = true := Nat.ble_eq_true_of_le q
              rw [this] at hc1; cases hc1.1
            · exact q
          refine lv_tableIn C.1 C.2.1 hd (by omega) (by omega) (off := off) ?_ htg (kk _ _ _ _ _ _ hM hL hS)
          rw [show (x.toInt - lo).toNat = a.1 - k by omega]
          exact ho
  · cases h
end XS2
end
section
/-! ===== fields, arrays, new cells ===== -/
noncomputable def x_getf (ci k n : Nat) : xF := fun _ L S w => match S with
  | .inr (.inl (some a)) :: S => (match xwg w a with
    | some (.inr (.inr (c, fs))) => bif Nat.beq c ci then (match xget fs k with
      | some v => some (n, L, v :: S, w)
      | none => none) else none
    | _ => none)
  | _ => none
/-- may it stand in a field: 0 an int's, 1 a boolean's, 2 a reference's -/
def xfit (kd : Nat) (v : xV) : Bool := match kd, v with
  | 0, .inl _ => true
  | 1, .inl a => Nat.ble 2147483648 a.1 && Nat.ble a.2 2147483649
  | 2, .inr (.inl _) => true
  | _, _ => false
noncomputable def x_putf (ci k kd n : Nat) : xF := fun _ L S w => match S with
  | v :: .inr (.inl (some a)) :: S => (match xwg w a with
    | some (.inr (.inr (c, fs))) => bif Nat.beq c ci && (xfit kd v && Nat.blt k fs.length) then some (n, L, S, xws w a (.inr (.inr (c, xset v fs k)))) else none
    | _ => none)
  | _ => none
/-- an index that is known -/
def xix (i : Nat × Nat) (n : Nat) : Option Nat := bif Nat.beq i.1 i.2 && (Nat.ble 2147483648 i.1 && Nat.blt i.1 (n + 2147483648)) then some (i.1 - 2147483648) else none
noncomputable def x_iald (n : Nat) : xF := fun _ L S w => match S with
  | .inl i :: .inr (.inl (some a)) :: S => (match xwg w a with
    | some (.inl (0, len, d, us)) => (match xix i len with
      | some j => some (n, L, .inl (xlk us d j) :: S, w)
      | none => none)
    | _ => none)
  | _ => none
noncomputable def x_bald (n : Nat) : xF := fun _ L S w => match S with
  | .inl i :: .inr (.inl (some a)) :: S => (match xwg w a with
    | some (.inl (1, len, d, us)) => (match xix i len with
      | some j => some (n, L, .inl (xlk us d j) :: S, w)
      | none => none)
    | some (.inl (2, len, d, us)) => (match xix i len with
      | some j => some (n, L, .inl (xlk us d j) :: S, w)
      | none => none)
    | _ => none)
  | _ => none
noncomputable def x_aald (n : Nat) : xF := fun _ L S w => match S with
  | .inl i :: .inr (.inl (some a)) :: S => (match xwg w a with
    | some (.inr (.inl (t, len, us))) => (match xix i len with
      | some j => some (n, L, .inr (.inl (xlq us j)) :: S, w)
      | none => none)
    | _ => none)
  | _ => none
/-- an int is put into an array: nothing is written where it stands already -/
noncomputable def xup (w : xW) (a t len : Nat) (d : Nat × Nat) (us : List (Nat × Nat × Nat)) (j : Nat) (v : Nat × Nat) : xW :=
  bif Nat.beq (xlk us d j).1 v.1 && Nat.beq (xlk us d j).2 v.2 then w else xws w a (.inl (t, len, d, xlp us j v))
noncomputable def x_iast (n : Nat) : xF := fun _ L S w => match S with
  | .inl v :: .inl i :: .inr (.inl (some a)) :: S => (match xwg w a with
    | some (.inl (0, len, d, us)) => (match xix i len with
      | some j => some (n, L, S, xup w a 0 len d us j v)
      | none => none)
    | _ => none)
  | _ => none
def xnb (v : Nat × Nat) : Nat × Nat := bif Nat.ble 2147483520 v.1 && Nat.ble v.2 2147483775 then v else (2147483520, 2147483775)
noncomputable def x_bast (n : Nat) : xF := fun _ L S w => match S with
  | .inl v :: .inl i :: .inr (.inl (some a)) :: S => (match xwg w a with
    | some (.inl (1, len, d, us)) => (match xix i len with
      | some j => some (n, L, S, xup w a 1 len d us j (xnb v))
      | none => none)
    | some (.inl (2, len, d, us)) => (match xix i len with
      | some j => bif Nat.ble 2147483648 v.1 && Nat.ble v.2 2147483649 then some (n, L, S, xup w a 2 len d us j v) else none
      | none => none)
    | _ => none)
  | _ => none
noncomputable def x_last (n : Nat) : xF := fun _ L S w => match S with
  | .inr (.inr 0) :: .inl i :: .inr (.inl (some a)) :: S => (match xwg w a with
    | some (.inl (3, len, _, _)) => (match xix i len with
      | some _ => some (n, L, S, w)
      | none => none)
    | _ => none)
  | _ => none
noncomputable def x_alen (n : Nat) : xF := fun _ L S w => match S with
  | .inr (.inl (some a)) :: S => (match xwg w a with
    | some (.inl (0, len, _, _)) => some (n, L, .inl (len + 2147483648, len + 2147483648) :: S, w)
    | _ => none)
  | _ => none
section XS3
variable {PX : xPX} {G : State → Nat → Nat → Prop} {cc : ByteArray} {own : String} {ini : Bool} {pc : Nat}
theorem xgood (C : String) (T : u_T) (N : Nat) : ∀ w ∈ u_ws C T N, goodWord w = true := by
  intro w h
  obtain ⟨k, -, rfl⟩ := List.mem_map.mp h
  unfold u_lay
  split <;> rfl
theorem xin1 {C : String} {T : u_T} {N : Nat} (h : ∀ w ∈ u_ws C T N, w ∈ lw_tbl) : ∀ w ∈ u_ws C T N, w ∈ xTB := fun w hw => xmem (h w hw) (xgood C T N w hw)
theorem xcell {sz b a : Nat} {tys : List (ClassId × FieldType)} {w : xW} {ws : va_W} {e : xE} (h : xRW sz b tys w ws) (ha : xwg w a = some e) : ∃ u, ws[a]? = some (sz + a, u) ∧ xRE sz b tys e u := h.2.1 a e ha
theorem s_getf {index ci k : Nat} {C : String} {T : u_T} {N : Nat} (hd : decode cc pc = .ok (.getfield index, 3)) (hcl : vwCl[ci]? = some (C, T, N)) (hin : ∀ w ∈ u_ws C T N, w ∈ lw_tbl) (hk : k < N) (hw : Cond.fieldLink own index (T k).1 (T k).2.1 (T k).2.2.1 ∈ xTB) : xSound PX G cc own ini pc (x_getf ci k (pc + 3)) := by
  intro call d hc L S w pc' L' S' w' h
  unfold x_getf at h
  split at h
  · rename_i a S0
    split at h
    · rename_i c1 fs ha
      cases hb : Nat.beq c1 ci with
      | false => rw [hb] at h; cases h
      | true =>
        rw [hb] at h
        have e1 := Nat.eq_of_beq_eq_true hb
        subst e1
        cases hv : xget fs k with
        | none => simp only [hv] at h; cases h
        | some v =>
          simp only [hv] at h
          cases h
          refine ⟨xLe_rf, ?_⟩
          intro p l e R s m args below meth c Q nL D tys sz b c0 s0 C1 hG hf hlo h1 h2 ls st H locs cells slots hM hL hS kk
          obtain ⟨u, st', rfl, hu, hS⟩ := hS
          cases hu
          obtain ⟨⟨ws, hR, hP⟩, hM2⟩ := id hM
          obtain ⟨u, hu, vs, rfl, hvs⟩ := xcell hR ha
          rw [xget_eq] at hv
          obtain ⟨x, hx, hxv⟩ := xRS_get hvs hv
          exact va_get C1.1 C1.2.1 C1.2.2.2.2.1 (xin1 hin) C1.2.2.2.1 C1.2.2.2.2.2.1 hP a hu hcl k hk (C1.2.2.2.2.1 _ hw) (fun _ h9 => h9) hx hd (kk _ _ _ _ _ _ hM hL ⟨_, _, rfl, hxv, hS⟩)
    · cases h
  · cases h
theorem x_putf_eq {ci k kd n : Nat} {call : xC} {L : List (Option xV)} {S : List xV} {w : xW} {r : xS} (h : x_putf ci k kd n call L S w = some r) : ∃ v a S0 fs, S = v :: .inr (.inl (some a)) :: S0 ∧ xwg w a = some (.inr (.inr (ci, fs))) ∧ xfit kd v = true ∧ k < fs.length ∧ r = (n, L, S0, xws w a (.inr (.inr (ci, fs.set k v)))) := by
  unfold x_putf at h
  split at h
  · split at h
    · rename_i v a S0 _ c1 fs ha
      cases hb : (Nat.beq c1 ci && (xfit kd v && Nat.blt k fs.length)) with
      | false => rw [hb] at h; cases h
      | true =>
        rw [hb] at h
        simp only [Bool.and_eq_true] at hb
        have e1 := Nat.eq_of_beq_eq_true hb.1
        subst e1
        have h := (Option.some.inj h).symm
        rw [xset_eq] at h
        exact ⟨v, a, S0, fs, rfl, ha, hb.2.1, xblt hb.2.2, h⟩
    · cases h
  · cases h
def xkd (kd : Nat) (ty : FieldType) : Prop := (kd = 0 ∧ ty = .int) ∨ (kd = 1 ∧ ty = .boolean) ∨ (kd = 2 ∧ ((∃ C, ty = .object C) ∨ ∃ t, ty = .array t))
theorem xz1 {x : Int32} (h1 : 2147483648 ≤ xo x) (h2 : xo x ≤ 2147483649) : x = 0 ∨ x = 1 := by
  have e1 : xo 1 = 2147483649 := by decide +kernel
  rcases Nat.lt_or_ge (xo x) 2147483649 with q | q
  · exact Or.inl (xo_inj (by rw [xo_zero]; omega))
  · exact Or.inr (xo_inj (by rw [e1]; omega))
theorem xfit_ok {kd sz b : Nat} {ty : FieldType} {v : xV} {u : Value} (hk : xkd kd ty) (hf : xfit kd v = true) (hv : xRV sz b v u) : narrow ty u = u ∧ fits ty u = true := by
  rcases hk with ⟨rfl, rfl⟩ | ⟨rfl, rfl⟩ | ⟨rfl, hk⟩
  · match v, hf, hv with
    | .inl a, _, hv =>
      obtain ⟨x, rfl, -⟩ := hv
      exact ⟨rfl, rfl⟩
  · match v, hf, hv with
    | .inl a, hf, hv =>
      obtain ⟨x, rfl, hx1, hx2⟩ := hv
      simp only [xfit, Bool.and_eq_true] at hf
      rcases xz1 (x := x) (Nat.le_trans (xble hf.1) hx1) (Nat.le_trans hx2 (xble hf.2)) with rfl | rfl
      · exact ⟨by decide +kernel, by decide +kernel⟩
      · exact ⟨by decide +kernel, by decide +kernel⟩
  · match v, hf, hv with
    | .inr (.inl none), _, hv =>
      cases hv
      rcases hk with ⟨C, rfl⟩ | ⟨t, rfl⟩ <;> exact ⟨rfl, rfl⟩
    | .inr (.inl (some a)), _, hv =>
      cases hv
      rcases hk with ⟨C, rfl⟩ | ⟨t, rfl⟩ <;> exact ⟨rfl, rfl⟩
theorem xLe_set {w : xW} {a : Nat} {e : xE} : xLe w (xws w a e) := by
  have h := xws_nums w a e
  exact ⟨by rw [h.2]; exact Nat.le_refl _, by rw [h.1]; exact Nat.le_refl _⟩
theorem xMem_set {D : va_G} {tys : List (ClassId × FieldType)} {sz b c0 s0 : Nat} {s : State} {w : xW} {ws : va_W} {H H1 : Heap} {locs locs1 : List Loc} {cells slots a : Nat} {e0 e : xE} {u : va_E} (hM : xMem D tys sz b s c0 s0 w H locs cells slots) (hR : xRW sz b tys w ws) (ha : xwg w a = some e0) (hu : xRE sz b tys e u)
    (hP : va_P D vwCl (ws.set a (sz + a, u)) H1) (hz : H1.size = H.size) (hS : va_S (fun q => sz ≤ q) s.heap H1 locs1) : xMem D tys sz b s c0 s0 (xws w a e) H1 locs1 cells slots := by
  obtain ⟨-, h1, -, h3, h4, h5⟩ := hM
  have hn := xws_nums w a e
  exact ⟨⟨_, xRW_set hR ha hu, hP⟩, by rw [hz, hn.2]; exact h1, hS, by rw [hn.2]; exact h3, by rw [hn.1]; exact h4, h5⟩
theorem s_putf {index ci k kd : Nat} {C : String} {T : u_T} {N : Nat} {ty : Nat → FieldType} (hd : decode cc pc = .ok (.putfield index, 3)) (hcl : vwCl[ci]? = some (C, T, N)) (hin : ∀ w ∈ u_ws C T N, w ∈ lw_tbl) (hty : ∀ k, k < N → parseFieldDescriptor (T k).2.2.1 = some (ty k)) (hnm : ∀ a, a < N → ∀ b, b < N → a ≠ b → (T a).2.1 ≠ (T b).2.1) (hk : k < N) (hw : Cond.fieldLink own index (T k).1 (T k).2.1 (T k).2.2.1 ∈ xTB) (hkd : xkd kd (ty k)) (hfin : (T k).2.2.2 = false) : xSound PX G cc own ini pc (x_putf ci k kd (pc + 3)) := by
  intro call d hc L S w pc' L' S' w' h
  obtain ⟨v, a, S0, fs, rfl, ha, hfit, hkl, hr⟩ := x_putf_eq h
  cases hr
  refine ⟨xLe_set, ?_⟩
  intro p l e R s m args below meth c Q nL D tys sz b c0 s0 C1 hG hf hlo h1 h2 ls st H locs cells slots hM hL hS kk
  obtain ⟨x, st', rfl, hx, u2, st2, rfl, hu, hS⟩ := hS
  cases hu
  obtain ⟨⟨ws, hR, hP⟩, hz, hS0, hM2⟩ := id hM
  obtain ⟨u, hu, vs, rfl, hvs⟩ := xcell hR ha
  obtain ⟨hn, hft⟩ := xfit_ok hkd hfit hx
  obtain ⟨hx0, hb, hml, hown, hts, hK, hmap, hini⟩ := C1
  have hD := xRW_D hR
  have hin := xin1 hin
  have hap := va_apart (own := own) hts hin ty hty hnm hK hcl
  obtain ⟨r, g1, cell, q1, q2, q3, q4⟩ := hP a _ hu
  have hr : r = (C, T, N) := Option.some.inj (g1.symm.trans hcl)
  subst hr
  obtain ⟨hSl, hfc, kC, hkC, hkind⟩ := hK.1 ci _ hcl
  obtain ⟨cf, kf, fi, f, hi, hsl⟩ := hSl k hk
  have hlay := hts _ (hin _ (u_in_lay hk))
  unfold u_lay at hlay
  rw [if_neg (by rw [hfin]; decide)] at hlay
  have hst := (u_facts hfc hkC (u_lays hts hin hk) hi).1
  have h6 := u_store hfc hkC hkind hlay hi (hty k hk) hn hft
  refine W.putK hx0 hb (f := f) ⟨hown, hts _ hw, ⟨_, _, _, hi⟩, hst⟩ (by rw [q2]; exact h6) q1 q3 (by rw [hsl]; exact k2_hasslot (q4 k hk)) rfl rfl hd fun H' e1 e2 e3 => ?_
  rw [hsl] at e1 ⊢
  have hl : k < vs.length := by rw [xRS_len hvs]; exact hkl
  have hP' : va_P D vwCl (ws.set a (sz + a, .inr (ci, vs.set k x))) H' := hP.set hD hu ⟨_, hcl, t_OB.to (V := updV (vp_V vs) k x) ⟨_, e1, q2, q3, t_set q4 hap hk x⟩ (fun j _ => vp_updV_set hl x j)⟩ e3
  exact kk _ _ _ _ _ _ (xMem_set hM hR ha (e := .inr (.inr (ci, fs.set k v))) ⟨vs.set k x, rfl, xRS_set hx k hvs⟩ hP' e2 (hS0.put e2 e3 (Nat.le_add_right sz a))) hL hS
end XS3
end
section
/-- new cells; fs, d: what stands in them -/
noncomputable def x_new (ci N : Nat) (fs : List xV) (n : Nat) : xF := fun _ L S w => match xwp w (.inr (.inr (ci, fs))) N with
  | some w' => some (n, L, .inr (.inl (some w.2.1)) :: S, w')
  | none => none
noncomputable def x_newa (t n : Nat) : xF := fun _ L S w => match S with
  | .inl i :: S => bif Nat.beq i.1 i.2 && (Nat.ble 2147483648 i.1 && Nat.blt i.1 2148483648) then (match xwp w (.inl (t, i.1 - 2147483648, (2147483648, 2147483648), [])) (i.1 - 2147483648) with
    | some w' => some (n, L, .inr (.inl (some w.2.1)) :: S, w')
    | none => none) else none
  | _ => none
noncomputable def x_newq (n : Nat) : xF := fun _ L S w => match S with
  | .inl i :: S => bif Nat.beq i.1 i.2 && (Nat.ble 2147483648 i.1 && Nat.blt i.1 2148483648) then (match xwp w (.inr (.inl (4, i.1 - 2147483648, []))) (i.1 - 2147483648) with
    | some w' => some (n, L, .inr (.inl (some w.2.1)) :: S, w')
    | none => none) else none
  | _ => none
noncomputable def x_aast (ci n : Nat) : xF := fun _ L S w => match S with
  | .inr (.inl (some v)) :: .inl i :: .inr (.inl (some a)) :: S => (match xwg w a with
    | some (.inr (.inl (t, len, us))) => (match xix i len with
      | some j => (match xwg w v with
        | some (.inr (.inr (c, _))) => bif Nat.beq c ci then some (n, L, S, xws w a (.inr (.inl (t, len, (j, v) :: us)))) else none
        | _ => none)
      | none => none)
    | _ => none)
  | _ => none
theorem fb_byte0 {x : Int32} (h1 : -128 ≤ x.toInt) (h2 : x.toInt < 128) : x.toInt8.toInt32 = x := by
  apply Int32.toInt_inj.mp
  rw [Int8.toInt_toInt32, Int32.toInt_toInt8, Int.bmod_def]
  omega
theorem fb_byte_rng0 (x : Int32) : -128 ≤ x.toInt8.toInt32.toInt ∧ x.toInt8.toInt32.toInt < 128 := by
  rw [Int8.toInt_toInt32, Int32.toInt_toInt8, Int.bmod_def]
  omega
section XS4
variable {PX : xPX} {G : State → Nat → Nat → Prop} {cc : ByteArray} {own : String} {ini : Bool} {pc : Nat}
theorem s_putF {index ci k kd : Nat} {C : String} {T : u_T} {N : Nat} {ty : Nat → FieldType} (hd : decode cc pc = .ok (.putfield index, 3)) (hcl : vwCl[ci]? = some (C, T, N)) (hin : ∀ w ∈ u_ws C T N, w ∈ lw_tbl) (hty : ∀ k, k < N → parseFieldDescriptor (T k).2.2.1 = some (ty k)) (hnm : ∀ a, a < N → ∀ b, b < N → a ≠ b → (T a).2.1 ≠ (T b).2.1) (hk : k < N) (hw : Cond.fieldLink own index (T k).1 (T k).2.1 (T k).2.2.1 ∈ xTB) (hkd : xkd kd (ty k)) (hfin : (T k).2.2.2 = true) (hi2 : ini = true) (hdecl : (T k).1 = own) : xSound PX G cc own ini pc (x_putf ci k kd (pc + 3)) := by
  intro call d hc L S w pc' L' S' w' h
  obtain ⟨v, a, S0, fs, rfl, ha, hfit, hkl, hr⟩ := x_putf_eq h
  cases hr
  refine ⟨xLe_set, ?_⟩
  intro p l e R s m args below meth c Q nL D tys sz b c0 s0 C1 hG hf hlo h1 h2 ls st H locs cells slots hM hL hS kk
  obtain ⟨x, st', rfl, hx, u2, st2, rfl, hu, hS⟩ := hS
  cases hu
  obtain ⟨⟨ws, hR, hP⟩, hz, hS0, hM2⟩ := id hM
  obtain ⟨u, hu, vs, rfl, hvs⟩ := xcell hR ha
  obtain ⟨hn, hft⟩ := xfit_ok hkd hfit hx
  obtain ⟨hx0, hb, hml, hown, hts, hK, hmap, hini⟩ := C1
  have hD := xRW_D hR
  have hin := xin1 hin
  have hap := va_apart (own := own) hts hin ty hty hnm hK hcl
  obtain ⟨r, g1, cell, q1, q2, q3, q4⟩ := hP a _ hu
  have hr : r = (C, T, N) := Option.some.inj (g1.symm.trans hcl)
  subst hr
  obtain ⟨hSl, hfc, kC, hkC, hkind⟩ := hK.1 ci _ hcl
  obtain ⟨cf, kf, fi, f, hi, hsl⟩ := hSl k hk
  have hlay := hts _ (hin _ (u_in_lay hk))
  unfold u_lay at hlay
  rw [if_pos hfin] at hlay
  have hst := (u_facts hfc hkC (u_lays hts hin hk) hi).1
  have hcf : m.cls = cf := by
    obtain ⟨_, _, c', _, _, _, -, -, hf', -, -, -, hown2, -⟩ := Cond.laysFinal_spec hlay
    have e1 : c' = cf := by have := hi.symm.trans hf'; simp at this; exact this.1.symm
    rw [hdecl] at hown2
    rw [← e1]; exact Option.some.inj (hown.symm.trans hown2)
  have h6 := u_fits hfc hkC hkind (Or.inr hlay) hi (hty k hk) hn hft
  have hl : k < vs.length := by rw [xRS_len hvs]; exact hkl
  refine W.putFinK hx0 hb hown (hts _ hw) hi hst hcf (hini.1 hi2) (by rw [q2]; exact h6) q1 q3 (by rw [hsl]; exact k2_hasslot (q4 k hk)) rfl rfl hd fun H' e1 e2 e3 => ?_
  rw [hsl] at e1 ⊢
  have hP' : va_P D vwCl (ws.set a (sz + a, .inr (ci, vs.set k x))) H' := hP.set hD hu ⟨_, hcl, t_OB.to (V := updV (vp_V vs) k x) ⟨_, e1, q2, q3, t_set q4 hap hk x⟩ (fun j _ => vp_updV_set hl x j)⟩ e3
  exact kk _ _ _ _ _ _ (xMem_set hM hR ha (e := .inr (.inr (ci, fs.set k v))) ⟨vs.set k x, rfl, xRS_set hx k hvs⟩ hP' e2 (hS0.put e2 e3 (Nat.le_add_right sz a))) hL hS
theorem xix_eq {i : Nat × Nat} {n j : Nat} {x : Int32} (h : xix i n = some j) (hx : xRI i x) : vp_in x n ∧ x.toNatClampNeg = j ∧ j < n := by
  unfold xix at h
  cases hb : (Nat.beq i.1 i.2 && (Nat.ble 2147483648 i.1 && Nat.blt i.1 (n + 2147483648))) with
  | false => rw [hb] at h; cases h
  | true =>
    rw [hb] at h
    have h := Option.some.inj h
    simp only [Bool.and_eq_true] at hb
    have q1 := Nat.eq_of_beq_eq_true hb.1
    have q2 := xble hb.2.1
    have q3 := xblt hb.2.2
    have ex : xo x = i.1 := Nat.le_antisymm (by rw [q1]; exact hx.2) hx.1
    refine ⟨xo_in (by omega) (by omega), ?_, by omega⟩
    rw [xo_clamp (by omega), ex]
    exact h
theorem xty_of {tys : List (ClassId × FieldType)} {t : Nat} {cA : ClassId} {ty : FieldType} (hm : tys.map Prod.snd = xTys) (h : tys[t]? = some (cA, ty)) : xTys[t]? = some ty := by
  rw [← hm, List.getElem?_map, h]
  rfl
theorem xty_ex {tys : List (ClassId × FieldType)} {t : Nat} {ty : FieldType} (hm : tys.map Prod.snd = xTys) (h : xTys[t]? = some ty) : ∃ cA, tys[t]? = some (cA, ty) := by
  rw [← hm, List.getElem?_map] at h
  cases hq : tys[t]? with
  | none => rw [hq] at h; cases h
  | some q =>
    rw [hq] at h
    cases h
    exact ⟨q.1, rfl⟩
theorem s_iald (hd : decode cc pc = .ok (.iaload, 1)) : xSound PX G cc own ini pc (x_iald (pc + 1)) := by
  intro call d hc L S w pc' L' S' w' h
  unfold x_iald at h
  split at h
  · rename_i i a S0
    split at h
    · rename_i len d0 us ha
      cases hj : xix i len with
      | none => simp only [hj] at h; cases h
      | some j =>
        simp only [hj] at h
        cases h
        refine ⟨xLe_rf, ?_⟩
        intro p l e R s m args below meth c Q nL D tys sz b c0 s0 C1 hG hf hlo h1 h2 ls st H locs cells slots hM hL hS kk
        obtain ⟨x, st', rfl, ⟨x, rfl, hx⟩, u2, st2, rfl, hu, hS⟩ := hS
        cases hu
        obtain ⟨⟨ws, hR, hP⟩, hM2⟩ := id hM
        obtain ⟨u, hu, cA, ty, hty, hlen, hk⟩ := xcell hR ha
        rcases hk with ⟨-, f, rfl, hf2⟩ | ⟨h3, -⟩
        · obtain ⟨hin, hcl, hjl⟩ := xix_eq hj hx
          have ht := Option.some.inj (xty_of C1.2.2.2.2.2.2.1 hty)
          cases ht
          exact va_iald C1.1 C1.2.1 C1.2.2.2.2.2.1 hP a 0 hu hty hin hd (kk _ _ _ _ _ _ hM hL ⟨_, _, rfl, ⟨_, rfl, by rw [hcl]; exact hf2 j hjl⟩, hS⟩)
        · cases h3
    · cases h
  · cases h
theorem s_bald (hd : decode cc pc = .ok (.baload, 1)) : xSound PX G cc own ini pc (x_bald (pc + 1)) := by
  intro call d hc L S w pc' L' S' w' h
  unfold x_bald at h
  split at h
  · rename_i i a S0
    split at h
    · rename_i len d0 us ha
      cases hj : xix i len with
      | none => simp only [hj] at h; cases h
      | some j =>
        simp only [hj] at h
        cases h
        refine ⟨xLe_rf, ?_⟩
        intro p l e R s m args below meth c Q nL D tys sz b c0 s0 C1 hG hf hlo h1 h2 ls st H locs cells slots hM hL hS kk
        obtain ⟨x, st', rfl, ⟨x, rfl, hx⟩, u2, st2, rfl, hu, hS⟩ := hS
        cases hu
        obtain ⟨⟨ws, hR, hP⟩, hM2⟩ := id hM
        obtain ⟨u, hu, cA, ty, hty, hlen, hk⟩ := xcell hR ha
        rcases hk with ⟨-, f, rfl, hf2⟩ | ⟨h3, -⟩
        · obtain ⟨hin, hcl, hjl⟩ := xix_eq hj hx
          have ht := Option.some.inj (xty_of C1.2.2.2.2.2.2.1 hty)
          cases ht
          exact va_bald C1.1 C1.2.1 C1.2.2.2.2.2.1 hP a 1 hu hty hin hd (kk _ _ _ _ _ _ hM hL ⟨_, _, rfl, ⟨_, rfl, by rw [hcl]; exact hf2 j hjl⟩, hS⟩)
        · cases h3
    · rename_i len d0 us ha
      cases hj : xix i len with
      | none => simp only [hj] at h; cases h
      | some j =>
        simp only [hj] at h
        cases h
        refine ⟨xLe_rf, ?_⟩
        intro p l e R s m args below meth c Q nL D tys sz b c0 s0 C1 hG hf hlo h1 h2 ls st H locs cells slots hM hL hS kk
        obtain ⟨x, st', rfl, ⟨x, rfl, hx⟩, u2, st2, rfl, hu, hS⟩ := hS
        cases hu
        obtain ⟨⟨ws, hR, hP⟩, hM2⟩ := id hM
        obtain ⟨u, hu, cA, ty, hty, hlen, hk⟩ := xcell hR ha
        rcases hk with ⟨-, f, rfl, hf2⟩ | ⟨h3, -⟩
        · obtain ⟨hin, hcl, hjl⟩ := xix_eq hj hx
          have ht := Option.some.inj (xty_of C1.2.2.2.2.2.2.1 hty)
          cases ht
          exact va_zald C1.1 C1.2.1 C1.2.2.2.2.2.1 hP a 2 hu hty hin hd (kk _ _ _ _ _ _ hM hL ⟨_, _, rfl, ⟨_, rfl, by rw [hcl]; exact hf2 j hjl⟩, hS⟩)
        · cases h3
    · cases h
  · cases h
theorem s_aald (hd : decode cc pc = .ok (.aaload, 1)) : xSound PX G cc own ini pc (x_aald (pc + 1)) := by
  intro call d hc L S w pc' L' S' w' h
  unfold x_aald at h
  split at h
  · rename_i i a S0
    split at h
    · rename_i t len us ha
      cases hj : xix i len with
      | none => simp only [hj] at h; cases h
      | some j =>
        simp only [hj] at h
        cases h
        refine ⟨xLe_rf, ?_⟩
        intro p l e R s m args below meth c Q nL D tys sz b c0 s0 C1 hG hf hlo h1 h2 ls st H locs cells slots hM hL hS kk
        obtain ⟨x, st', rfl, ⟨x, rfl, hx⟩, u2, st2, rfl, hu, hS⟩ := hS
        cases hu
        obtain ⟨⟨ws, hR, hP⟩, hM2⟩ := id hM
        obtain ⟨u, hu, cA, ty, hty, hlen, rfl, f, rfl, hf2⟩ := xcell hR ha
        obtain ⟨hin, hcl, hjl⟩ := xix_eq hj hx
        have ht := Option.some.inj (xty_of C1.2.2.2.2.2.2.1 hty)
        cases ht
        refine va_aldq C1.1 C1.2.1 C1.2.2.2.2.2.1 hP a 4 hu hty hin hd (kk _ _ _ _ _ _ hM hL ⟨_, _, rfl, ?_, hS⟩)
        rw [hcl, hf2 j hjl]
        cases xlq us j <;> rfl
    · cases h
  · cases h
theorem xRW_same {sz b k : Nat} {tys : List (ClassId × FieldType)} {w : xW} {ws : va_W} {e : xE} {u : va_E} (h : xRW sz b tys w ws) (hk : xwg w k = some e) (hu : xRE sz b tys e u) : xRW sz b tys w (ws.set k (sz + k, u)) := by
  obtain ⟨u0, h0, -⟩ := h.2.1 k e hk
  have hl : k < ws.length := (List.getElem?_eq_some_iff.mp h0).1
  refine ⟨by rw [List.length_set]; exact h.1, fun j e' hj => ?_, fun j q hj => ?_⟩
  · by_cases hjk : j = k
    · subst hjk
      cases hk.symm.trans hj
      exact ⟨u, List.getElem?_set_self hl, hu⟩
    · rw [List.getElem?_set_ne (Ne.symm hjk)]
      exact h.2.1 j e' hj
  · by_cases hjk : j = k
    · subst hjk
      rw [List.getElem?_set_self hl] at hj
      cases hj
      rfl
    · rw [List.getElem?_set_ne (Ne.symm hjk)] at hj
      exact h.2.2 j q hj
theorem xup_nums (w : xW) (a t len : Nat) (d : Nat × Nat) (us : List (Nat × Nat × Nat)) (j : Nat) (v : Nat × Nat) : (xup w a t len d us j v).1 = w.1 ∧ (xup w a t len d us j v).2.1 = w.2.1 := by
  unfold xup
  cases (Nat.beq (xlk us d j).1 v.1 && Nat.beq (xlk us d j).2 v.2) with
  | true => exact ⟨rfl, rfl⟩
  | false => exact xws_nums w a _
theorem xup_ok {sz b a t len j : Nat} {tys : List (ClassId × FieldType)} {w : xW} {ws : va_W} {d v : Nat × Nat} {us : List (Nat × Nat × Nat)} {cA : ClassId} {ty : FieldType} {f : Nat → Int32} {x : Int32} (h : xRW sz b tys w ws) (ha : xwg w a = some (.inl (t, len, d, us))) (ht : t < 3) (hty : tys[t]? = some (cA, ty)) (hlen : len < 2147483648) (hf : ∀ j, j < len → xRI (xlk us d j) (f j)) (hx : xRI v x) : xRW sz b tys (xup w a t len d us j v) (ws.set a (sz + a, .inl (cA, len, .inl (upd f j x)))) := by
  unfold xup
  cases hb : (Nat.beq (xlk us d j).1 v.1 && Nat.beq (xlk us d j).2 v.2) with
  | true =>
    simp only [Bool.and_eq_true, Nat.beq_eq] at hb
    have e1 : xlk us d j = v := Prod.ext hb.1 hb.2
    refine xRW_same h ha ⟨cA, ty, hty, hlen, Or.inl ⟨ht, _, rfl, fun i hi => ?_⟩⟩
    by_cases hij : i = j
    · subst hij
      rw [pk_us, e1]
      exact hx
    · rw [pk_un hij]
      exact hf i hi
  | false =>
    refine xRW_set h ha ⟨cA, ty, hty, hlen, Or.inl ⟨ht, _, rfl, fun i hi => ?_⟩⟩
    rw [xlk_put]
    by_cases hij : i = j
    · subst hij
      rw [pk_us, if_pos rfl]
      exact hx
    · rw [pk_un hij, if_neg hij]
      exact hf i hi
theorem xMem_up {D : va_G} {tys : List (ClassId × FieldType)} {sz b c0 s0 : Nat} {s : State} {w w1 : xW} {ws1 : va_W} {H H1 : Heap} {locs locs1 : List Loc} {cells slots : Nat} (hM : xMem D tys sz b s c0 s0 w H locs cells slots) (hn : w1.1 = w.1 ∧ w1.2.1 = w.2.1) (hR : xRW sz b tys w1 ws1)
    (hP : va_P D vwCl ws1 H1) (hz : H1.size = H.size) (hS : va_S (fun q => sz ≤ q) s.heap H1 locs1) : xMem D tys sz b s c0 s0 w1 H1 locs1 cells slots := by
  obtain ⟨-, h1, -, h3, h4, h5⟩ := hM
  exact ⟨⟨_, hR, hP⟩, by rw [hz, hn.2]; exact h1, hS, by rw [hn.2]; exact h3, by rw [hn.1]; exact h4, h5⟩
theorem xLe_up {w w1 : xW} (hn : w1.1 = w.1 ∧ w1.2.1 = w.2.1) : xLe w w1 := ⟨by rw [hn.2]; exact Nat.le_refl _, by rw [hn.1]; exact Nat.le_refl _⟩
theorem s_iast (hd : decode cc pc = .ok (.iastore, 1)) : xSound PX G cc own ini pc (x_iast (pc + 1)) := by
  intro call d hc L S w pc' L' S' w' h
  unfold x_iast at h
  split at h
  · rename_i v i a S0
    split at h
    · rename_i len d0 us ha
      cases hj : xix i len with
      | none => simp only [hj] at h; cases h
      | some j =>
        simp only [hj] at h
        cases h
        refine ⟨xLe_up (xup_nums _ _ _ _ _ _ _ _), ?_⟩
        intro p l e R s m args below meth c Q nL D tys sz b c0 s0 C1 hG hf hlo h1 h2 ls st H locs cells slots hM hL hS kk
        obtain ⟨y, st', rfl, ⟨y, rfl, hy⟩, x, st', rfl, ⟨x, rfl, hx⟩, u2, st2, rfl, hu, hS⟩ := hS
        cases hu
        obtain ⟨⟨ws, hR, hP⟩, hz, hS0, hM2⟩ := id hM
        obtain ⟨u, hu, cA, ty, hty, hlen, hk⟩ := xcell hR ha
        rcases hk with ⟨-, f, rfl, hf2⟩ | ⟨h3, -⟩
        · obtain ⟨hin, hcl, hjl⟩ := xix_eq hj hx
          have ht := Option.some.inj (xty_of C1.2.2.2.2.2.2.1 hty)
          cases ht
          refine W.iast C1.1 C1.2.1 (hP a _ hu) ((C1.2.2.2.2.2.1.2 0 _ hty).1 len (fun j => .int (f j))) (fun q => by cases q) (by show ¬ (x < 0 ∨ (arrV _ _ _).slots.size ≤ _); rw [arrV_size]; exact hin) rfl rfl hd fun H1 e1 z oq => ?_
          have hP' : va_P D vwCl (ws.set a (sz + a, .inl (cA, len, .inl (upd f j y)))) H1 := by
            refine hP.set (xRW_D hR) hu ?_ oq
            show H1[sz + a]? = some (vp_cell _ _)
            rw [e1, vp_cell_i, vp_cell_i, arrV_store, hcl]
            congr 2
            funext q
            by_cases hq : q = j
            · subst hq; simp [updV, upd]
            · simp [updV, upd, hq]
          exact kk _ _ _ _ _ _ (xMem_up hM (xup_nums _ _ _ _ _ _ _ _) (xup_ok hR ha (by decide) hty hlen hf2 hy) hP' z (hS0.put z oq (Nat.le_add_right sz a))) hL hS
        · cases h3
    · cases h
  · cases h
theorem xnb_ok {v : Nat × Nat} {x : Int32} (h : xRI v x) : xRI (xnb v) (vp_nar .byte x) := by
  rw [vp_nar_byte]
  have hi := xo_int x
  have hb := fb_byte_rng0 x
  have hi2 := xo_int x.toInt8.toInt32
  unfold xnb
  cases hc : (Nat.ble 2147483520 v.1 && Nat.ble v.2 2147483775) with
  | true =>
    simp only [Bool.and_eq_true] at hc
    have q1 := xble hc.1
    have q2 := xble hc.2
    obtain ⟨h1, h2⟩ := h
    have e : x.toInt8.toInt32 = x := fb_byte0 (by omega) (by omega)
    show xRI v _
    rw [e]
    exact ⟨h1, h2⟩
  | false =>
    show 2147483520 ≤ _ ∧ _ ≤ 2147483775
    omega
theorem xnz_ok {v : Nat × Nat} {x : Int32} (h : xRI v x) (h1 : 2147483648 ≤ v.1) (h2 : v.2 ≤ 2147483649) : vp_nar .boolean x = x := by
  rcases xz1 (x := x) (Nat.le_trans h1 h.1) (Nat.le_trans h.2 h2) with rfl | rfl <;> decide +kernel
theorem s_bast (hd : decode cc pc = .ok (.bastore, 1)) : xSound PX G cc own ini pc (x_bast (pc + 1)) := by
  intro call d hc L S w pc' L' S' w' h
  unfold x_bast at h
  split at h
  · rename_i v i a S0
    split at h
    · rename_i len d0 us ha
      cases hj : xix i len with
      | none => simp only [hj] at h; cases h
      | some j =>
        simp only [hj] at h
        cases h
        refine ⟨xLe_up (xup_nums _ _ _ _ _ _ _ _), ?_⟩
        intro p l e R s m args below meth c Q nL D tys sz b c0 s0 C1 hG hf hlo h1 h2 ls st H locs cells slots hM hL hS kk
        obtain ⟨y, st', rfl, ⟨y, rfl, hy⟩, x, st', rfl, ⟨x, rfl, hx⟩, u2, st2, rfl, hu, hS⟩ := hS
        cases hu
        obtain ⟨⟨ws, hR, hP⟩, hz, hS0, hM2⟩ := id hM
        obtain ⟨u, hu, cA, ty, hty, hlen, hk⟩ := xcell hR ha
        rcases hk with ⟨-, f, rfl, hf2⟩ | ⟨h3, -⟩
        · obtain ⟨hin, hcl, hjl⟩ := xix_eq hj hx
          have ht := Option.some.inj (xty_of C1.2.2.2.2.2.2.1 hty)
          cases ht
          refine W.bast C1.1 C1.2.1 (hP a _ hu) ((C1.2.2.2.2.2.1.2 1 _ hty).1 len (fun j => .int (f j))) (fun q => by cases q) (by show ¬ (x < 0 ∨ (arrV _ _ _).slots.size ≤ _); rw [arrV_size]; exact hin) rfl rfl hd fun H1 e1 z oq => ?_
          have hP' : va_P D vwCl (ws.set a (sz + a, .inl (cA, len, .inl (upd f j (vp_nar .byte y))))) H1 := by
            refine hP.set (xRW_D hR) hu ?_ oq
            show H1[sz + a]? = some (vp_cell _ _)
            rw [e1, vp_cell_i, vp_cell_i, arrV_store, hcl]
            congr 2
            funext q
            by_cases hq : q = j
            · subst hq
              simp [updV, upd, vp_nar]
              try rfl
            · simp [updV, upd, hq]
          exact kk _ _ _ _ _ _ (xMem_up hM (xup_nums _ _ _ _ _ _ _ _) (xup_ok hR ha (by decide) hty hlen hf2 (xnb_ok hy)) hP' z (hS0.put z oq (Nat.le_add_right sz a))) hL hS
        · cases h3
    · rename_i len d0 us ha
      cases hj : xix i len with
      | none => simp only [hj] at h; cases h
      | some j =>
        simp only [hj] at h
        cases hcn : (Nat.ble 2147483648 v.1 && Nat.ble v.2 2147483649) with
        | false => rw [hcn] at h; cases h
        | true =>
          rw [hcn] at h
          cases h
          simp only [Bool.and_eq_true] at hcn
          refine ⟨xLe_up (xup_nums _ _ _ _ _ _ _ _), ?_⟩
          intro p l e R s m args below meth c Q nL D tys sz b c0 s0 C1 hG hf hlo h1 h2 ls st H locs cells slots hM hL hS kk
          obtain ⟨y, st', rfl, ⟨y, rfl, hy⟩, x, st', rfl, ⟨x, rfl, hx⟩, u2, st2, rfl, hu, hS⟩ := hS
          cases hu
          obtain ⟨⟨ws, hR, hP⟩, hz, hS0, hM2⟩ := id hM
          obtain ⟨u, hu, cA, ty, hty, hlen, hk⟩ := xcell hR ha
          rcases hk with ⟨-, f, rfl, hf2⟩ | ⟨h3, -⟩
          · obtain ⟨hin, hcl, hjl⟩ := xix_eq hj hx
            have ht := Option.some.inj (xty_of C1.2.2.2.2.2.2.1 hty)
            cases ht
            refine W.zast C1.1 C1.2.1 (hP a _ hu) ((C1.2.2.2.2.2.1.2 2 _ hty).1 len (fun j => .int (f j))) (fun q => by cases q) (by show ¬ (x < 0 ∨ (arrV _ _ _).slots.size ≤ _); rw [arrV_size]; exact hin) rfl rfl hd fun H1 e1 z oq => ?_
            have hnz := xnz_ok hy (xble hcn.1) (xble hcn.2)
            have hP' : va_P D vwCl (ws.set a (sz + a, .inl (cA, len, .inl (upd f j (vp_nar .boolean y))))) H1 := by
              refine hP.set (xRW_D hR) hu ?_ oq
              show H1[sz + a]? = some (vp_cell _ _)
              rw [e1, vp_cell_i, vp_cell_i, arrV_store, hcl]
              congr 2
              funext q
              by_cases hq : q = j
              · subst hq
                simp [updV, upd, vp_nar]
                try rfl
              · simp [updV, upd, hq]
            rw [hnz] at hP'
            exact kk _ _ _ _ _ _ (xMem_up hM (xup_nums _ _ _ _ _ _ _ _) (xup_ok hR ha (by decide) hty hlen hf2 hy) hP' z (hS0.put z oq (Nat.le_add_right sz a))) hL hS
          · cases h3
    · cases h
  · cases h
theorem s_last (hd : decode cc pc = .ok (.lastore, 1)) : xSound PX G cc own ini pc (x_last (pc + 1)) := by
  intro call d hc L S w pc' L' S' w' h
  unfold x_last at h
  split at h
  · rename_i i a S0
    split at h
    · rename_i len d0 us ha
      cases hj : xix i len with
      | none => simp only [hj] at h; cases h
      | some j =>
        simp only [hj] at h
        cases h
        refine ⟨xLe_rf, ?_⟩
        intro p l e R s m args below meth c Q nL D tys sz b c0 s0 C1 hG hf hlo h1 h2 ls st H locs cells slots hM hL hS kk
        obtain ⟨y, st', rfl, ⟨y, rfl⟩, x, st', rfl, ⟨x, rfl, hx⟩, u2, st2, rfl, hu, hS⟩ := hS
        cases hu
        obtain ⟨⟨ws, hR, hP⟩, hz, hS0, hM2⟩ := id hM
        obtain ⟨u, hu, cA, ty, hty, hlen, hk⟩ := xcell hR ha
        rcases hk with ⟨h3, -⟩ | ⟨h3, f, rfl⟩
        · exact absurd h3 (by decide)
        · obtain ⟨hin, hcl, hjl⟩ := xix_eq hj hx
          have ht := Option.some.inj (xty_of C1.2.2.2.2.2.2.1 hty)
          cases ht
          refine W.last C1.1 C1.2.1 (hP a _ hu) ((C1.2.2.2.2.2.1.2 3 _ hty).1 len (fun j => .long (f j))) (fun q => by cases q) (by show ¬ (x < 0 ∨ (arrV _ _ _).slots.size ≤ _); rw [arrV_size]; exact hin) rfl rfl hd fun H1 e1 z oq => ?_
          have hP' : va_P D vwCl (ws.set a (sz + a, .inl (cA, len, .inr (.inl (vp_updL f j y))))) H1 := by
            refine hP.set (xRW_D hR) hu ?_ oq
            show H1[sz + a]? = some (vp_cell _ _)
            rw [e1, vp_cell_l, vp_cell_l, arrV_store, hcl]
            congr 2
            funext q
            by_cases hq : q = j
            · subst hq; simp [updV, vp_updL]
            · simp [updV, vp_updL, hq]
          exact kk _ _ _ _ _ _ (xMem_up hM ⟨rfl, rfl⟩ (xRW_same hR ha ⟨cA, _, hty, hlen, Or.inr ⟨rfl, _, rfl⟩⟩) hP' z (hS0.put z oq (Nat.le_add_right sz a))) hL hS
    · cases h
  · cases h
theorem s_alen (hd : decode cc pc = .ok (.arraylength, 1)) : xSound PX G cc own ini pc (x_alen (pc + 1)) := by
  intro call d hc L S w pc' L' S' w' h
  unfold x_alen at h
  split at h
  · rename_i a S0
    split at h
    · rename_i len d0 us ha
      cases h
      refine ⟨xLe_rf, ?_⟩
      intro p l e R s m args below meth c Q nL D tys sz b c0 s0 C1 hG hf hlo h1 h2 ls st H locs cells slots hM hL hS kk
      obtain ⟨u2, st2, rfl, hu, hS⟩ := hS
      cases hu
      obtain ⟨⟨ws, hR, hP⟩, hM2⟩ := id hM
      obtain ⟨u, hu, cA, ty, hty, hlen, hk⟩ := xcell hR ha
      rcases hk with ⟨-, f, rfl, hf2⟩ | ⟨h3, -⟩
      · refine va_alen C1.1 C1.2.1 C1.2.2.2.2.2.1 hP a 0 hu hty rfl hd (kk _ _ _ _ _ _ hM hL ⟨_, _, rfl, ⟨_, rfl, ?_⟩, hS⟩)
        rw [← xo_nat hlen]
        exact xRI_c _
      · cases h3
    · cases h
  · cases h
end XS4
end
section
section XS5
variable {PX : xPX} {G : State → Nat → Nat → Prop} {cc : ByteArray} {own : String} {ini : Bool} {pc : Nat}
/-- what stands in a field that was never written -/
def xdv (ty : FieldType) : xV := match ty with
  | .long => .inr (.inr 0)
  | .object _ => .inr (.inl none)
  | .array _ => .inr (.inl none)
  | _ => .inl (2147483648, 2147483648)
def xokt (ty : FieldType) : Bool := match ty with
  | .float => false
  | .double => false
  | _ => true
theorem xdv_ok {sz b : Nat} {ty : FieldType} (h : xokt ty = true) : xRV sz b (xdv ty) (defaultValue ty) := by
  cases ty with
  | float => cases h
  | double => cases h
  | long => exact ⟨_, rfl⟩
  | object C => exact rfl
  | array t => exact rfl
  | _ => exact ⟨0, rfl, xRI_z⟩
theorem xwp_nums {w w' : xW} {e : xE} {n : Nat} (h : xwp w e n = some w') : w'.1 = w.1 + n ∧ w'.2.1 = w.2.1 + 1 := ⟨(xwg_push (j := 0) h).1, (xwg_push (j := 0) h).2.1⟩
theorem xLe_push {w w' : xW} {e : xE} {n : Nat} (h : xwp w e n = some w') : xLe w w' := by
  obtain ⟨h1, h2⟩ := xwp_nums h
  exact ⟨by omega, by omega⟩
/-- a new cell at the heap's end -/
theorem xMem_push {D : va_G} {tys : List (ClassId × FieldType)} {sz b c0 s0 : Nat} {s : State} {w w' : xW} {ws : va_W} {H H1 : Heap} {locs : List Loc} {cells slots n : Nat} {e : xE} {u : va_E} (hM : xMem D tys sz b s c0 s0 w H locs cells slots) (hR : xRW sz b tys w ws) (hP : va_P D vwCl ws H) (hp : xwp w e n = some w') (hu : xRE sz b tys e u)
    (hat : va_at D vwCl (sz + w.2.1, u) H1) (hz : H1.size = H.size + 1) (ho : ∀ q, q < H.size → H1[q]? = H[q]?) : xMem D tys sz b s c0 s0 w' H1 locs (cells + 1) (slots + n) := by
  obtain ⟨-, h1, h2, h3, h4, h5⟩ := hM
  obtain ⟨n1, n2⟩ := xwp_nums hp
  refine ⟨⟨_, xRW_push hR hp hu, (hP.kept (fun k x hx => ho x.1 ((hP k x hx).lt))).app (fun k x hx => ?_)⟩, by rw [hz, n2]; omega, ⟨Nat.le_trans h2.1 (by omega), fun x g1 g2 => (ho x (Nat.lt_of_lt_of_le g1 h2.1)).trans (h2.2.1 x g1 g2), h2.2.2⟩, by omega, by omega, h5⟩
  have hz1 : k < 1 := (List.getElem?_eq_some_iff.mp hx).1
  rw [show k = 0 by omega] at hx
  cases hx
  exact hat
theorem s_new {index ci : Nat} {C : String} {T : u_T} {N : Nat} {ty : Nat → FieldType} {fs : List xV} (hd : decode cc pc = .ok (.new index, 3)) (hcl : vwCl[ci]? = some (C, T, N)) (hin : ∀ w ∈ u_ws C T N, w ∈ lw_tbl) (hty : ∀ k, k < N → parseFieldDescriptor (T k).2.2.1 = some (ty k)) (hok : (List.range N).all (fun j => xokt (ty j)) = true) (hfs : fs = (List.range N).map (fun j => xdv (ty j))) (hw1 : Cond.classLink own index C ∈ xTB) (hw2 : Cond.instantiable C N ∈ xTB) (hw3 : Cond.initialized C ∈ xTB) : xSound PX G cc own ini pc (x_new ci N fs (pc + 3)) := by
  intro call d hc L S w pc' L' S' w' h
  unfold x_new at h
  split at h
  · rename_i w1 hp
    cases h
    refine ⟨xLe_push hp, ?_⟩
    intro p l e R s m args below meth c Q nL D tys sz b c0 s0 C1 hG hf hlo h1 h2 ls st H locs cells slots hM hL hS kk
    obtain ⟨⟨ws, hR, hP⟩, hz, hS0, hM3, hM4, hM5⟩ := id hM
    obtain ⟨hx0, hb, hml, hown, hts, hK, hmap, hini⟩ := C1
    obtain ⟨n1, n2⟩ := xwp_nums hp
    have hKn := hK.1 ci _ hcl
    refine W.newcK hx0 hb hown (hts _ hw1) (hts _ hw2) (hts _ hw3) rfl hd (by omega) (by omega) hKn.2.1 hz fun H1 kC hkC e1 z1 o1 => ?_
    have hfv : ∀ j, j < N → defaultValue (ty j) = vp_V ((List.range N).map (fun j => defaultValue (ty j))) j := fun j hj => by
      simp [vp_V, hj]
    exact kk _ _ _ _ _ _ (xMem_push (u := .inr (ci, (List.range N).map (fun j => defaultValue (ty j)))) hM hR hP hp ⟨_, rfl, by rw [hfs]; exact xRS_map _ (fun j hj => xdv_ok (List.all_eq_true.mp hok j hj))⟩ ⟨_, hcl, (u_born ty hts (xin1 hin) hKn hkC e1 hty).to hfv⟩ (by rw [z1, hz]) (fun q hq => o1 q (by rw [← hz]; exact hq))) hL ⟨_, _, rfl, rfl, hS⟩
  · cases h
theorem x_newa_eq {t n : Nat} {call : xC} {L : List (Option xV)} {S : List xV} {w : xW} {r : xS} (h : x_newa t n call L S w = some r) : ∃ i S0 w1, S = .inl i :: S0 ∧ i.1 = i.2 ∧ 2147483648 ≤ i.1 ∧ i.1 < 2148483648 ∧ xwp w (.inl (t, i.1 - 2147483648, (2147483648, 2147483648), [])) (i.1 - 2147483648) = some w1 ∧ r = (n, L, .inr (.inl (some w.2.1)) :: S0, w1) := by
  unfold x_newa at h
  split at h
  · rename_i i S0
    cases hb : (Nat.beq i.1 i.2 && (Nat.ble 2147483648 i.1 && Nat.blt i.1 2148483648)) with
    | false => rw [hb] at h; cases h
    | true =>
      rw [hb] at h
      simp only [Bool.and_eq_true] at hb
      cases hp : xwp w (.inl (t, i.1 - 2147483648, (2147483648, 2147483648), [])) (i.1 - 2147483648) with
      | none => simp only [hp] at h; cases h
      | some w1 =>
        simp only [hp] at h
        exact ⟨i, S0, w1, rfl, Nat.eq_of_beq_eq_true hb.1, xble hb.2.1, xblt hb.2.2, hp, (Option.some.inj h).symm⟩
  · cases h
theorem s_newa {t : Nat} {atype : ArrayType} {ty : FieldType} (hd : decode cc pc = .ok (.newarray atype, 2)) (hta : newarray.typeOf atype = ty) (hty : xTys[t]? = some ty) (hw : Cond.arrayClass (newarray.typeOf atype) ∈ xTB) (hbytes : componentBytes (newarray.typeOf atype) ≤ 8) (hnm : ∀ (U : State) (cA : ClassId), va_RA U cA ty = (U.vm.findClass ("[" ++ ty.toString) = some cA))
    (hk : (t < 3 ∧ defaultValue ty = .int 0) ∨ (t = 3 ∧ defaultValue ty = .long 0)) : xSound PX G cc own ini pc (x_newa t (pc + 2)) := by
  intro call d hc L S w pc' L' S' w' h
  obtain ⟨i, S0, w1, rfl, q1, q2, q3, hp, hr⟩ := x_newa_eq h
  cases hr
  refine ⟨xLe_push hp, ?_⟩
  intro p l e R s m args below meth c Q nL D tys sz b c0 s0 C1 hG hf hlo h1 h2 ls st H locs cells slots hM hL hS kk
  obtain ⟨u, st', rfl, ⟨x, rfl, hx⟩, hS⟩ := hS
  obtain ⟨⟨ws, hR, hP⟩, hz, hS0, hM3, hM4, hM5⟩ := id hM
  obtain ⟨hx0, hb, hml, hown, hts, hK, hmap, hini⟩ := C1
  obtain ⟨n1, n2⟩ := xwp_nums hp
  have ex : xo x = i.1 := Nat.le_antisymm (by rw [q1]; exact hx.2) hx.1
  have hneg : ¬ x < 0 := by rw [xo_lt_iff, xo_zero]; omega
  have hN : x.toNatClampNeg = i.1 - 2147483648 := by rw [xo_clamp (by omega), ex]
  obtain ⟨cA0, htA⟩ := xty_ex hmap hty
  refine va_newaK hx0 hb (hts _ hw) rfl hd rfl hneg hN ?_ (by omega) (by omega) hz fun H1 cA e1 z1 o1 hAr hNm => ?_
  · have : (i.1 - 2147483648) * componentBytes (newarray.typeOf atype) ≤ (i.1 - 2147483648) * 8 := Nat.mul_le_mul_left _ hbytes
    omega
  · subst hta
    have hcA : cA = cA0 := by
      have h9 := (hK.2 t _ htA).2
      rw [hnm] at h9
      exact Option.some.inj (hNm.symm.trans h9)
    subst hcA
    rcases hk with ⟨k1, k2⟩ | ⟨k1, k2⟩
    · refine kk _ _ _ _ _ _ (xMem_push (u := .inl (cA, i.1 - 2147483648, .inl (fun _ => 0))) hM hR hP hp ⟨cA, _, htA, by omega, Or.inl ⟨k1, _, rfl, fun j hj => xRI_z⟩⟩ ?_ (by rw [z1, hz]) (fun q hq => o1 q (by rw [← hz]; exact hq))) hL ⟨_, _, rfl, rfl, hS⟩
      show H1[sz + w.2.1]? = some (vp_cell _ _)
      rw [e1, vp_cell_i, k2]
    · refine kk _ _ _ _ _ _ (xMem_push (u := .inl (cA, i.1 - 2147483648, .inr (.inl (fun _ => 0)))) hM hR hP hp ⟨cA, _, htA, by omega, Or.inr ⟨k1, _, rfl⟩⟩ ?_ (by rw [z1, hz]) (fun q hq => o1 q (by rw [← hz]; exact hq))) hL ⟨_, _, rfl, rfl, hS⟩
      show H1[sz + w.2.1]? = some (vp_cell _ _)
      rw [e1, vp_cell_l, k2]
theorem s_newq {index : Nat} (hd : decode cc pc = .ok (.anewarray index, 3)) (hw1 : Cond.classLink own index "CapitalCase$Town" ∈ xTB) : xSound PX G cc own ini pc (x_newq (pc + 3)) := by
  intro call d hc L S w pc' L' S' w' h
  unfold x_newq at h
  split at h
  · rename_i i S0
    cases hb : (Nat.beq i.1 i.2 && (Nat.ble 2147483648 i.1 && Nat.blt i.1 2148483648)) with
    | false => rw [hb] at h; cases h
    | true =>
      rw [hb] at h
      simp only [Bool.and_eq_true] at hb
      have q1 := Nat.eq_of_beq_eq_true hb.1
      have q2 := xble hb.2.1
      have q3 := xblt hb.2.2
      cases hp : xwp w (.inr (.inl (4, i.1 - 2147483648, []))) (i.1 - 2147483648) with
      | none => simp only [hp] at h; cases h
      | some w1 =>
        simp only [hp] at h
        cases h
        refine ⟨xLe_push hp, ?_⟩
        intro p l e R s m args below meth c Q nL D tys sz b c0 s0 C1 hG hf hlo h1 h2 ls st H locs cells slots hM hL hS kk
        obtain ⟨u, st', rfl, ⟨x, rfl, hx⟩, hS⟩ := hS
        obtain ⟨⟨ws, hR, hP⟩, hz, hS0, hM3, hM4, hM5⟩ := id hM
        obtain ⟨hx0, hb, hml, hown, hts, hK, hmap, hini⟩ := C1
        obtain ⟨n1, n2⟩ := xwp_nums hp
        have ex : xo x = i.1 := Nat.le_antisymm (by rw [q1]; exact hx.2) hx.1
        have hneg : ¬ x < 0 := by rw [xo_lt_iff, xo_zero]; omega
        have hN : x.toNatClampNeg = i.1 - 2147483648 := by rw [xo_clamp (by omega), ex]
        obtain ⟨cA0, htA⟩ := xty_ex (t := 4) hmap rfl
        refine W.anew hx0 hb hown (hts _ hw1) (va_AO.use hini.2.2) rfl hd rfl hneg (by omega) (by omega) (by omega) fun cA kA comp f1 f2 f3 f4 => ?_
        have hcA : cA = cA0 := by
          obtain ⟨kA', comp', -, -, -, h9⟩ := (hK.2 4 _ htA).2
          exact Option.some.inj (f1.symm.trans h9)
        subst hcA
        rw [hN]
        generalize hH1 : H.push ({ cls := cA, slots := Array.replicate (i.1 - 2147483648) .null, vm := .none } : Cell) = H1
        have z1 : H1.size = H.size + 1 := by rw [← hH1, Array.size_push]
        have e1 : H1[H.size]? = some (arrV cA (i.1 - 2147483648) (fun _ => .null)) := by rw [← hH1, Array.getElem?_push_size, ← arrV_new]
        have o1 : ∀ q : Nat, q < H.size → H1[q]? = H[q]? := fun q hq => by rw [← hH1, Array.getElem?_push, if_neg (Nat.ne_of_lt hq)]
        rw [hz]
        refine kk _ _ _ _ _ _ (xMem_push (u := .inl (cA, i.1 - 2147483648, .inr (.inr (.inr (.inr (fun _ => none)))))) hM hR hP hp ⟨cA, _, htA, by omega, rfl, _, rfl, fun j hj => rfl⟩ ?_ z1 o1) hL ⟨_, _, rfl, rfl, hS⟩
        show H1[sz + w.2.1]? = some (vp_cell _ _)
        rw [vp_cell_q, ← hz]
        exact e1
  · cases h
/-- the heap's size, by the room that is used -/
theorem x_size {p : Program} {l : Launch} {e : Env} {R : Room} {s : State} {m : MethodId} {args : Array Value} {below : List Frame} {meth : Method} {c : Code} {T : State} {locs : List Loc} {cells slots : Nat} {D : va_G} {tys : List (ClassId × FieldType)} {sz b c0 : Nat} {w : xW} {ws : va_W} {H1 : Heap} (X : Stand p l e R s m args below meth c T locs cells slots) (hT : T.heap = H1) (hP : va_P D vwCl ws H1) (hR : xRW sz b tys w ws) (h5 : s.heap.size = sz + c0) (h3 : c0 + cells = w.2.1) : H1.size = sz + w.2.1 := by
  have hs := X.same
  have h1 : s.heap.size ≤ H1.size := by rw [← hT]; exact hs.2.1
  have h2 : H1.size ≤ s.heap.size + cells := by rw [← hT]; exact hs.2.2.1
  by_cases hw : w.2.1 = 0
  · omega
  · have hl : w.2.1 - 1 < ws.length := by rw [hR.1]; omega
    have hq : ws[w.2.1 - 1]? = some ws[w.2.1 - 1] := List.getElem?_eq_getElem hl
    have h6 := (hP _ _ hq).lt
    have h7 := hR.2.2 _ _ hq
    omega
theorem s_aast {ci : Nat} {T : u_T} {N : Nat} (hd : decode cc pc = .ok (.aastore, 1)) (hcl : vwCl[ci]? = some ("CapitalCase$Town", T, N)) : xSound PX G cc own ini pc (x_aast ci (pc + 1)) := by
  intro call d hc L S w pc' L' S' w' h
  unfold x_aast at h
  split at h
  · rename_i v i a S0
    split at h
    · rename_i t len us ha
      cases hj : xix i len with
      | none => simp only [hj] at h; cases h
      | some j =>
        simp only [hj] at h
        split at h
        · rename_i c1 fs hv
          cases hb : Nat.beq c1 ci with
          | false => rw [hb] at h; cases h
          | true =>
            rw [hb] at h
            have e1 := Nat.eq_of_beq_eq_true hb
            subst e1
            cases h
            refine ⟨xLe_set, ?_⟩
            intro p l e R s m args below meth c Q nL D tys sz b c0 s0 C1 hG hf hlo h1 h2 ls st H locs cells slots hM hL hS kk
            obtain ⟨u1, st1, rfl, hu1, x, st', rfl, ⟨x, rfl, hx⟩, u2, st2, rfl, hu, hS⟩ := hS
            cases hu
            cases hu1
            obtain ⟨⟨ws, hR, hP⟩, hz, hS0, hM3, hM4, hM5⟩ := id hM
            obtain ⟨u, hu, cA, ty, hty, hlen, rfl, f, rfl, hf2⟩ := xcell hR ha
            obtain ⟨uv, huv, vs, rfl, -⟩ := xcell hR hv
            obtain ⟨hin, hcl2, hjl⟩ := xix_eq hj hx
            have ht := Option.some.inj (xty_of C1.2.2.2.2.2.2.1 hty)
            cases ht
            refine va_astq C1.1 C1.2.1 C1.2.2.2.2.2.1 hP (xRW_D hR) hS0 a 4 v c1 hu hty huv hcl hin hd (fun H1 locs1 g1 g2 g3 => ?_)
            rw [hcl2] at g1
            have hR1 : xRW sz b tys (xws w a (.inr (.inl (4, len, (j, v) :: us)))) (ws.set a (sz + a, .inl (cA, len, .inr (.inr (.inr (.inr (va_up f j (some (sz + v))))))))) := by
              refine xRW_set hR ha ⟨cA, _, hty, hlen, rfl, _, rfl, fun i2 hi2 => ?_⟩
              show (if i2 = j then some (sz + v) else f i2) = Option.map _ (bif Nat.beq j i2 then some v else xlq us i2)
              by_cases hij : i2 = j
              · subst hij
                simp
              · rw [if_neg hij, xbeqF (Ne.symm hij)]
                exact hf2 i2 hi2
            have hn := xws_nums w a (.inr (.inl (4, len, (j, v) :: us)))
            intro T0 hT0 X0
            exact kk _ _ _ _ _ _ ⟨⟨_, hR1, g1⟩, x_size X0 hT0 g1 hR1 hM5 (by rw [hn.2]; exact hM3), g3, by rw [hn.2]; exact hM3, by rw [hn.1]; exact hM4, hM5⟩ hL hS T0 hT0 X0
        · cases h
    · cases h
  · cases h
/-- how many words a stack has -/
def xcat (S : List xV) : Nat := match S with
  | [] => 0
  | .inr (.inr 0) :: S => xcat S + 2
  | _ :: S => xcat S + 1
theorem xcat_ok {sz b : Nat} : ∀ {S : List xV} {st : List Value}, xRS sz b S st → (st.map fun v => v.category).sum = xcat S
  | [], st, h => by cases h; rfl
  | v :: S, st, h => by
    obtain ⟨u, st', rfl, hu, h2⟩ := h
    have ih := xcat_ok h2
    simp only [List.map_cons, List.sum_cons]
    rw [ih]
    match v, hu with
    | .inl a, hu => obtain ⟨x, rfl, -⟩ := hu; show 1 + xcat S = xcat S + 1; omega
    | .inr (.inl none), hu => cases hu; show 1 + xcat S = xcat S + 1; omega
    | .inr (.inl (some k)), hu => cases hu; show 1 + xcat S = xcat S + 1; omega
    | .inr (.inr 0), hu => obtain ⟨x, rfl⟩ := hu; show 2 + xcat S = xcat S + 2; omega
    | .inr (.inr (k + 1)), hu => cases hu; show 1 + xcat S = xcat S + 1; omega
noncomputable def x_obj (n : Nat) : xF := fun _ L S w => match S with
  | .inr (.inl (some _)) :: S => bif Nat.ble (xcat S) 8 then some (n, L, S, w) else none
  | _ => none
theorem s_obj {index : Nat} (hd : decode cc pc = .ok (.invokespecial index, 3)) (hw1 : Cond.methodLink own index objectInit ∈ xTB) (hw2 : Cond.instanceMethod objectInit ∈ xTB) (hw3 : Cond.code objectInit ⟨#[0xb1]⟩ 1 none ∈ xTB) : xSound PX G cc own ini pc (x_obj (pc + 3)) := by
  intro call d hc L S w pc' L' S' w' h
  unfold x_obj at h
  split at h
  · rename_i k S0
    cases hb : Nat.ble (xcat S0) 8 with
    | false => rw [hb] at h; cases h
    | true =>
      rw [hb] at h
      cases h
      have hb := xble hb
      refine ⟨xLe_rf, ?_⟩
      intro p l e R s m args below meth c Q nL D tys sz b c0 s0 C1 hG hf hlo h1 h2 ls st H locs cells slots hM hL hS kk
      obtain ⟨u2, st2, rfl, hu, hS⟩ := hS
      cases hu
      have hcat := xcat_ok hS
      refine W.objInit C1.1 C1.2.1 C1.2.2.2.1 (C1.2.2.2.2.1 _ hw1) (C1.2.2.2.2.1 _ hw2) (C1.2.2.2.2.1 _ hw3) rfl (by rw [C1.2.2.1]; obtain ⟨-, lv, g, -⟩ := hL; exact g.1) rfl hd (by omega) ?_ (kk _ _ _ _ _ _ hM hL hS)
      show 2 * 0 + _ + 12 ≤ _
      omega
  · cases h
/-- a whole int array is copied -/
noncomputable def x_copy (n : Nat) : xF := fun _ L S w => match S with
  | .inl k :: .inl dp :: .inr (.inl (some a)) :: .inl sp :: .inr (.inl (some a0)) :: S => (match xwg w a0 with
    | some (.inl (0, n0, d0, us0)) => (match xwg w a with
      | some (.inl (0, n1, _, _)) => bif Nat.ble (xcat S) 8 && (Nat.beq sp.1 2147483648 && (Nat.beq sp.2 2147483648 && (Nat.beq dp.1 2147483648 && (Nat.beq dp.2 2147483648 && (Nat.beq k.1 (n1 + 2147483648) && (Nat.beq k.2 (n1 + 2147483648) && Nat.ble n1 n0)))))) then some (n, L, S, xws w a (.inl (0, n1, d0, us0))) else none
      | _ => none)
    | _ => none)
  | _ => none
theorem s_copy {index : Nat} (hd : decode cc pc = .ok (.invokestatic index, 3)) (hw1 : Cond.methodLink own index arraycopyName ∈ xTB) (hw2 : Cond.native arraycopyName ∈ xTB) (hw3 : Cond.static arraycopyName ∈ xTB) (hw4 : Cond.initialized "java/lang/System" ∈ xTB) (hnw : nativeFrameWords "java/lang/System" "arraycopy" 5 + 11 ≤ 56) : xSound PX G cc own ini pc (x_copy (pc + 3)) := by
  intro call d hc L S w pc' L' S' w' h
  unfold x_copy at h
  split at h
  · rename_i k dp a sp a0 S0
    split at h
    · rename_i n0 d0 us0 ha0
      split at h
      · rename_i n1 d1 us1 ha
        cases hb : (Nat.ble (xcat S0) 8 && (Nat.beq sp.1 2147483648 && (Nat.beq sp.2 2147483648 && (Nat.beq dp.1 2147483648 && (Nat.beq dp.2 2147483648 && (Nat.beq k.1 (n1 + 2147483648) && (Nat.beq k.2 (n1 + 2147483648) && Nat.ble n1 n0))))))) with
        | false => rw [hb] at h; cases h
        | true =>
          rw [hb] at h
          cases h
          simp only [Bool.and_eq_true] at hb
          obtain ⟨b0, b1, b2, b3, b4, b5, b6, b7⟩ := hb
          have b0 := xble b0
          have b1 := Nat.eq_of_beq_eq_true b1
          have b2 := Nat.eq_of_beq_eq_true b2
          have b3 := Nat.eq_of_beq_eq_true b3
          have b4 := Nat.eq_of_beq_eq_true b4
          have b5 := Nat.eq_of_beq_eq_true b5
          have b6 := Nat.eq_of_beq_eq_true b6
          have b7 := xble b7
          refine ⟨xLe_set, ?_⟩
          intro p l e R s m args below meth c Q nL D tys sz b c0 s0 C1 hG hf hlo h1 h2 ls st H locs cells slots hM hL hS kk
          obtain ⟨_, _, rfl, ⟨x, rfl, hx⟩, _, _, rfl, ⟨y, rfl, hy⟩, _, _, rfl, hu1, _, _, rfl, ⟨z, rfl, hz1⟩, _, st2, rfl, hu2, hS⟩ := hS
          cases hu1
          cases hu2
          obtain ⟨⟨ws, hR, hP⟩, hz, hS0, hM3, hM4, hM5⟩ := id hM
          obtain ⟨u, hu, cA, ty, hty, hlen, hk⟩ := xcell hR ha
          obtain ⟨u0, hu0, cA0, ty0, hty0, hlen0, hk0⟩ := xcell hR ha0
          rcases hk with ⟨-, f, rfl, hf2⟩ | ⟨h3, -⟩
          · rcases hk0 with ⟨-, f0, rfl, hf0⟩ | ⟨h3, -⟩
            · have ht := Option.some.inj (xty_of C1.2.2.2.2.2.2.1 hty)
              cases ht
              have ht := Option.some.inj (xty_of C1.2.2.2.2.2.2.1 hty0)
              cases ht
              obtain ⟨hx1, hx2⟩ := hx
              obtain ⟨hy1, hy2⟩ := hy
              obtain ⟨hz2, hz3⟩ := hz1
              have ex : xo x = n1 + 2147483648 := by omega
              have ey : xo y = 2147483648 := by omega
              have ez : xo z = 2147483648 := by omega
              have cx : x.toNatClampNeg = n1 := by rw [xo_clamp (by omega), ex]; omega
              have cy : y.toNatClampNeg = 0 := by rw [xo_clamp (by omega), ey]
              have cz : z.toNatClampNeg = 0 := by rw [xo_clamp (by omega), ez]
              have hcat := xcat_ok hS
              refine va_copyi (D := D) (cl := vwCl) C1.1 C1.2.1 (by rw [C1.2.2.1]; obtain ⟨-, lv, g, -⟩ := hL; exact g.1.symm) C1.2.2.2.1 (C1.2.2.2.2.1 _ hw1) (C1.2.2.2.2.1 _ hw2) (C1.2.2.2.2.1 _ hw3) (C1.2.2.2.2.1 _ hw4) C1.2.2.2.2.2.1 hP (xRW_D hR) hS0 a0 a 0 0 hu0 hu hty0 hty rfl (by rw [xo_lt_iff, xo_zero]; omega) (by rw [xo_lt_iff, xo_zero]; omega) (by rw [xo_lt_iff, xo_zero]; omega) (by omega) (by omega) (fun i hi => rfl) (by omega) (by omega) hd (fun H1 locs1 g1 g2 g3 => ?_)
              rw [cx, cy, cz] at g1
              have hR1 : xRW sz b tys (xws w a (.inl (0, n1, d0, us0))) (ws.set a (sz + a, .inl (cA, n1, .inl (va_cpy f0 f 0 0 n1)))) := by
                refine xRW_set hR ha ⟨cA, _, hty, hlen, Or.inl ⟨by decide, _, rfl, fun j hj => ?_⟩⟩
                rw [pk_cpy_in (Nat.zero_le _) (by omega)]
                rw [show 0 + (j - 0) = j by omega]
                exact hf0 j (by omega)
              have hn := xws_nums w a (.inl (0, n1, d0, us0))
              intro T0 hT0 X0
              exact kk _ _ _ _ _ _ ⟨⟨_, hR1, g1⟩, x_size X0 hT0 g1 hR1 hM5 (by rw [hn.2]; exact hM3), g3, by rw [hn.2]; exact hM3, by rw [hn.1]; exact hM4, hM5⟩ hL hS T0 hT0 X0
            · cases h3
          · cases h3
      · cases h
    · cases h
  · cases h
end XS5
end
section
/-! ===== calls, runs, contracts ===== -/
def xpop : Nat → List xV → List xV → Option (List xV × List xV)
  | 0, acc, S => some (acc, S)
  | _ + 1, _, [] => none
  | k + 1, acc, v :: S => xpop k (v :: acc) S
theorem xpop_eq : ∀ (k : Nat) (acc S as rest : List xV), xpop k acc S = some (as, rest) → ∃ S1, S = S1 ++ rest ∧ as = S1.reverse ++ acc ∧ S1.length = k
  | 0, acc, S, as, rest, h => by cases h; exact ⟨[], rfl, rfl, rfl⟩
  | k + 1, acc, [], as, rest, h => by cases h
  | k + 1, acc, v :: S, as, rest, h => by
    obtain ⟨S1, rfl, rfl, h3⟩ := xpop_eq k (v :: acc) S as rest h
    exact ⟨v :: S1, rfl, by simp, by simp [h3]⟩
def xpush (r : Option xV) (S : List xV) : List xV := match r with
  | none => S
  | some v => v :: S
noncomputable def x_inv (j na n : Nat) : xF := fun call L S w => match xpop na [] S with
  | some (as, rest) => bif Nat.ble (xcat rest) 8 then (match call j as w with
    | some (r, w') => some (n, L, xpush r rest, w')
    | none => none) else none
  | none => none
/-- is the first one an object of this class -/
noncomputable def xob (w : xW) (ci : Nat) (as : List xV) : Bool := match as with
  | .inr (.inl (some k)) :: _ => (match xwg w k with
    | some (.inr (.inr (c, _))) => Nat.beq c ci
    | _ => false)
  | _ => false
noncomputable def x_invV (ci j na n : Nat) : xF := fun call L S w => match xpop na [] S with
  | some (as, rest) => bif xob w ci as && Nat.ble (xcat rest) 8 then (match call j as w with
    | some (r, w') => some (n, L, xpush r rest, w')
    | none => none) else none
  | none => none
section XC
variable {PX : xPX} {G : State → Nat → Nat → Prop} {cc : ByteArray} {own : String} {ini : Bool} {pc : Nat}
theorem x_inv_eq {j na n : Nat} {call : xC} {L : List (Option xV)} {S : List xV} {w : xW} {q : xS} (h : x_inv j na n call L S w = some q) : ∃ as rest r w', S = as.reverse ++ rest ∧ as.length = na ∧ xcat rest ≤ 8 ∧ call j as w = some (r, w') ∧ q = (n, L, xpush r rest, w') := by
  unfold x_inv at h
  split at h
  · rename_i as rest hp
    obtain ⟨S1, rfl, rfl, h3⟩ := xpop_eq _ _ _ _ _ hp
    cases hb : Nat.ble (xcat rest) 8 with
    | false => rw [hb] at h; cases h
    | true =>
      rw [hb] at h
      cases hc : call j (S1.reverse ++ []) w with
      | none => simp only [hc] at h; cases h
      | some q1 =>
        obtain ⟨r, w'⟩ := q1
        simp only [hc] at h
        exact ⟨_, rest, r, w', by simp, by simp [h3], xble hb, hc, (Option.some.inj h).symm⟩
  · cases h
theorem x_invV_eq {ci j na n : Nat} {call : xC} {L : List (Option xV)} {S : List xV} {w : xW} {q : xS} (h : x_invV ci j na n call L S w = some q) : ∃ as rest r w', S = as.reverse ++ rest ∧ as.length = na ∧ xob w ci as = true ∧ xcat rest ≤ 8 ∧ call j as w = some (r, w') ∧ q = (n, L, xpush r rest, w') := by
  unfold x_invV at h
  split at h
  · rename_i as rest hp
    obtain ⟨S1, rfl, rfl, h3⟩ := xpop_eq _ _ _ _ _ hp
    cases hb : (xob w ci (S1.reverse ++ []) && Nat.ble (xcat rest) 8) with
    | false => rw [hb] at h; cases h
    | true =>
      rw [hb] at h
      simp only [Bool.and_eq_true] at hb
      cases hc : call j (S1.reverse ++ []) w with
      | none => simp only [hc] at h; cases h
      | some q1 =>
        obtain ⟨r, w'⟩ := q1
        simp only [hc] at h
        exact ⟨_, rest, r, w', by simp, by simp [h3], hb.1, xble hb.2, hc, (Option.some.inj h).symm⟩
  · cases h
theorem xPc_blind {D : va_G} {tys : List (ClassId × FieldType)} {sz b : Nat} {as : List xV} {w : xW} : FrameBlind (xPc D tys sz b as w) := by
  intro a U g mk h
  obtain ⟨us, h1, h2, h3, h4, h5, h6, h7⟩ := h
  exact ⟨us, h1, h2, h3, h4, va_K.moved (u := U) (U := U.calling g mk a) (Vm.Alike.refl U.vm) h5, h6, xN_same rfl h7⟩
theorem xPc_of {D : va_G} {tys : List (ClassId × FieldType)} {sz b : Nat} {as : List xV} {us : List Value} {w : xW} {s : State} {H : Heap} (h2 : xRS sz b as us) (h3 : ∃ ws : va_W, xRW sz b tys w ws ∧ va_P D vwCl ws H) (h4 : H.size = sz + w.2.1) (hK : va_K D vwCl tys s) (h6 : tys.map Prod.snd = xTys) (h7 : xN s) : ∀ U : State, U.heap = H → s.WarmedH U.vm → xPc D tys sz b as w us.toArray U :=
  fun U hU hW => ⟨us, rfl, h2, by rw [hU]; exact h3, by rw [hU]; exact h4, va_K.moved hW.alike hK, h6, xN_warm hW h7⟩
/-- behind a call -/
theorem x_back {p : Program} {l : Launch} {e : Env} {R : Room} {s : State} {m : MethodId} {args : Array Value} {below : List Frame} {meth : Method} {c : Code} {H : Heap} {locs : List Loc} {cells slots : Nat} {Q : State → Prop} {D : va_G} {tys : List (ClassId × FieldType)} {sz b c0 s0 nL : Nat} {w w' : xW} {r : Option xV} {ls : Array Slot} {st0 rest : List Value} {L : List (Option xV)} {S : List xV} {a : Array Value}
    (hr : va_Run p l e R s m args below meth c H locs cells slots (w'.2.1 - w.2.1) (w'.1 - w.1) (F0 m pc ls st0) rest (xQc D tys sz b r w' a) (fun q => sz ≤ q)) (hle : xLe w w') (hM : xMem D tys sz b s c0 s0 w H locs cells slots) (hL : xRL sz b L ls nL) (hS : xRS sz b S rest)
    (kk : ∀ (ls' : Array Slot) (st' : List Value) (H' : Heap) (locs' : List Loc) (cells' slots' : Nat), xMem D tys sz b s c0 s0 w' H' locs' cells' slots' → xRL sz b L ls' nL → xRS sz b (xpush r S) st' → W p l e R s m args below meth c H' locs' cells' slots' Q (F0 m (pc + 3) ls' st')) : W p l e R s m args below meth c H locs cells slots Q (F0 m pc ls st0) := by
  intro T hT X
  obtain ⟨v, st₀, t, T', L1, h0, X', hL1, e1, e2, ⟨v2, hv2, hro, hw1, hsz, hF⟩, go⟩ := hr T hT X
  cases hv2
  obtain ⟨-, g1, g2, g3, g4, g5⟩ := hM
  obtain ⟨k1, k2⟩ := hle
  have hM' : xMem D tys sz b s c0 s0 w' T'.heap (locs ++ L1) (cells + (w'.2.1 - w.2.1)) (slots + (w'.1 - w.1)) := by
    refine ⟨by rw [e1]; exact hw1, by rw [e1]; exact hsz, ⟨?_, fun q q1 q2 => ?_, fun q hq => ?_⟩, by omega, by omega, g5⟩
    · have := hF.1
      rw [h0] at this
      rw [e1]
      exact Nat.le_trans g2.1 this
    · rw [e1, hF.2 q (by rw [h0]; exact Nat.lt_of_lt_of_le q1 g2.1) q2, h0]
      exact g2.2.1 q q1 q2
    · rcases List.mem_append.mp hq with h | h
      · exact g2.2.2 q h
      · exact hL1 q h
  have hS' : xRS sz b (xpush r S) (v.toList ++ rest) := by
    cases r with
    | none => cases hro; exact hS
    | some a1 =>
      obtain ⟨u, rfl, hu⟩ := hro
      exact ⟨u, rest, rfl, hu, hS⟩
  obtain ⟨t2, a1, b1⟩ := kk ls _ _ _ _ _ hM' hL hS' T' rfl X'
  exact ⟨t2, go t2 a1, b1⟩
theorem xGI {y : MethodName} {bytes : ByteArray} {maxL : Nat} {ret : Option FieldType} (h : Cond.code y bytes maxL ret ∈ xTB) : GoodIn xTB (Cond.code y bytes maxL ret :: xTB) := by
  have key : ∀ w ∈ xTB, w ∈ xTB ∧ ((w.onTables && w.keeps) = true ∨ ∃ ty, w = .arrayClass ty) := fun w hw => ⟨hw, good_of_word (List.mem_filter.mp hw).2⟩
  intro w hw
  rcases List.mem_cons.mp hw with rfl | hw
  · exact key _ h
  · exact key w hw
/-- what a call needs of the callee -/
def xCal (PX : xPX) (j : Nat) (y : MethodName) (bytes : ByteArray) (maxL : Nat) (ret : Option FieldType) (np : Nat) : Prop :=
  PX j = some (y, bytes, maxL, ret) ∧ Cond.code y bytes maxL ret ∈ xTB ∧ Cond.initialized y.cls ∈ xTB ∧ maxL ≤ 45 ∧ (y.cls ≠ "java/lang/invoke/MethodHandle" ∧ y.cls ≠ "java/lang/invoke/VarHandle" ∧ (parseMethodDescriptor y.desc).map (fun d => d.parameters.length) = some np)
theorem s_invS {index j np : Nat} {y : MethodName} {bytes : ByteArray} {maxL : Nat} {ret : Option FieldType} (hd : decode cc pc = .ok (.invokestatic index, 3)) (hq : xCal PX j y bytes maxL ret np) (hw1 : Cond.methodLink own index y ∈ xTB) (hw2 : Cond.static y ∈ xTB) : xSound PX G cc own ini pc (x_inv j np (pc + 3)) := by
  intro call d hc L S w pc' L' S' w' h
  obtain ⟨as, rest, r, w1, rfl, hlen, hcat, hcl, hr⟩ := x_inv_eq h
  cases hr
  obtain ⟨hle, hmet⟩ := hc j as w r _ hcl
  obtain ⟨hpx, hcode, hini0, hml0, hdd⟩ := hq
  refine ⟨hle, ?_⟩
  intro p l e R s m args below meth c Q nL D tys sz b c0 s0 C1 hG hf hlo h1 h2 ls st H locs cells slots hM hL hS kk
  obtain ⟨t1, t2, rfl, hS1, hS2⟩ := xRS_split hS
  obtain ⟨hx0, hb, hml, hown, hts, hK, hmap, hin, hxN⟩ := C1
  obtain ⟨hws, hz, hS0, hM3, hM4, hM5⟩ := id hM
  have hcs := xcat_ok hS2
  have hAs : xRS sz b as t1.reverse := by
    have := xRS_rev hS1
    rwa [List.reverse_reverse] at this
  have hk1 := hle.1
  have hk2 := hle.2
  refine x_back (D := D) (tys := tys) (w := w) (w' := w') (r := r) (a := t1.reverse.toArray) ?_ hle hM hL hS2 kk
  exact va_runS (As := t1.reverse) (rest := t2) (Ts := xTB) ⟨hx0, hb, hml, hown, hts⟩ (hmet _ hpx l D tys sz b) ⟨callB_of np hts (xGI hcode) rfl rfl rfl (hts _ hini0) (hts _ hw1) hdd ⟨by show d + 1 ≤ _; omega, by show 8 + (maxL + 11) + 64 * d ≤ _; omega⟩, hts _ hw2⟩ ⟨xPc_blind, xPc_of hAs hws hz hK hmap hxN⟩ rfl (by rw [xRS_len hAs]; exact hlen) (by obtain ⟨-, lv, g, -⟩ := hL; exact g.1) (by rw [List.reverse_reverse]) (by show 2 * 0 + _ ≤ 8; omega) hd ⟨by omega, by omega⟩
theorem xob_eq {w : xW} {ci : Nat} {as : List xV} (h : xob w ci as = true) : ∃ k fs as', as = .inr (.inl (some k)) :: as' ∧ xwg w k = some (.inr (.inr (ci, fs))) := by
  unfold xob at h
  split at h
  · rename_i k as'
    split at h
    · rename_i c fs hk
      have e := Nat.eq_of_beq_eq_true h
      subst e
      exact ⟨k, fs, as', rfl, hk⟩
    · cases h
  · cases h
theorem s_invV {index j np ci : Nat} {y : MethodName} {bytes : ByteArray} {maxL : Nat} {ret : Option FieldType} {T : u_T} {N : Nat} (hd : decode cc pc = .ok (.invokevirtual index, 3)) (hq : xCal PX j y bytes maxL ret np) (hcl : vwCl[ci]? = some (y.cls, T, N)) (hw1 : Cond.methodLink own index y ∈ xTB) (hw2 : Cond.instanceMethod y ∈ xTB) (hw3 : Cond.selects y.cls y y ∈ xTB) : xSound PX G cc own ini pc (x_invV ci j (np + 1) (pc + 3)) := by
  intro call d hc L S w pc' L' S' w' h
  obtain ⟨as, rest, r, w1, rfl, hlen, hob, hcat, hcall, hr⟩ := x_invV_eq h
  cases hr
  obtain ⟨hle, hmet⟩ := hc j as w r _ hcall
  obtain ⟨hpx, hcode, hini0, hml0, hdd⟩ := hq
  obtain ⟨k, fs, as', rfl, hk⟩ := xob_eq hob
  refine ⟨hle, ?_⟩
  intro p l e R s m args below meth c Q nL D tys sz b c0 s0 C1 hG hf hlo h1 h2 ls st H locs cells slots hM hL hS kk
  obtain ⟨t1, t2, rfl, hS1, hS2⟩ := xRS_split hS
  obtain ⟨hx0, hb, hml, hown, hts, hK, hmap, hin, hxN⟩ := C1
  obtain ⟨hws, hz, hS0, hM3, hM4, hM5⟩ := id hM
  have hcs := xcat_ok hS2
  have hAs : xRS sz b (.inr (.inl (some k)) :: as') t1.reverse := by
    have := xRS_rev hS1
    rwa [List.reverse_reverse] at this
  obtain ⟨u, us, hus, hu, hAs'⟩ := id hAs
  cases hu
  have ht1 : t1 = us.reverse ++ [.ref (sz + k)] := by rw [← List.reverse_reverse t1, hus]; simp
  subst ht1
  rw [List.reverse_append, List.reverse_reverse] at hAs
  have hAs : xRS sz b (.inr (.inl (some k)) :: as') (.ref (sz + k) :: us) := hAs
  have hk1 := hle.1
  have hk2 := hle.2
  obtain ⟨ws, hR, hP⟩ := id hws
  obtain ⟨ue, hue, vs, rfl, -⟩ := xcell hR hk
  refine x_back (D := D) (tys := tys) (w := w) (w' := w') (r := r) (a := (Value.ref (sz + k) :: us).toArray) ?_ hle hM hL hS2 kk
  exact va_runV (As := us) (rest := t2) (Ts := xTB) (C := y.cls) ⟨hx0, hb, hml, hown, hts⟩ (hmet _ hpx l D tys sz b) ⟨callB_of np hts (xGI hcode) rfl rfl rfl (hts _ hini0) (hts _ hw1) hdd ⟨by show d + 1 ≤ _; omega, by show 8 + (maxL + 11) + 64 * d ≤ _; omega⟩, hts _ hw2, hts _ hw3⟩ ⟨xPc_blind, va_recv hK hP hcl hue, xPc_of hAs hws hz hK hmap hxN⟩ rfl (by rw [xRS_len hAs']; simpa using hlen) (by obtain ⟨-, lv, g, -⟩ := hL; exact g.1) (by simp) (by show 2 * 0 + _ ≤ 8; omega) hd ⟨by omega, by omega⟩
theorem s_invI {index j np ci : Nat} {y : MethodName} {bytes : ByteArray} {maxL : Nat} (hd : decode cc pc = .ok (.invokespecial index, 3)) (hq : xCal PX j y bytes maxL none np) (hw1 : Cond.methodLink own index y ∈ xTB) (hw2 : Cond.instanceMethod y ∈ xTB) (hy : y.name = "<init>") : xSound PX G cc own ini pc (x_invV ci j (np + 1) (pc + 3)) := by
  intro call d hc L S w pc' L' S' w' h
  obtain ⟨as, rest, r, w1, rfl, hlen, hob, hcat, hcall, hr⟩ := x_invV_eq h
  cases hr
  obtain ⟨hle, hmet⟩ := hc j as w r _ hcall
  obtain ⟨hpx, hcode, hini0, hml0, hdd⟩ := hq
  obtain ⟨k, fs, as', rfl, hk⟩ := xob_eq hob
  refine ⟨hle, ?_⟩
  intro p l e R s m args below meth c Q nL D tys sz b c0 s0 C1 hG hf hlo h1 h2 ls st H locs cells slots hM hL hS kk
  obtain ⟨t1, t2, rfl, hS1, hS2⟩ := xRS_split hS
  obtain ⟨hx0, hb, hml, hown, hts, hK, hmap, hin, hxN⟩ := C1
  obtain ⟨hws, hz, hS0, hM3, hM4, hM5⟩ := id hM
  have hcs := xcat_ok hS2
  have hAs : xRS sz b (.inr (.inl (some k)) :: as') t1.reverse := by
    have := xRS_rev hS1
    rwa [List.reverse_reverse] at this
  obtain ⟨u, us, hus, hu, hAs'⟩ := id hAs
  cases hu
  have ht1 : t1 = us.reverse ++ [.ref (sz + k)] := by rw [← List.reverse_reverse t1, hus]; simp
  subst ht1
  rw [List.reverse_append, List.reverse_reverse] at hAs
  have hAs : xRS sz b (.inr (.inl (some k)) :: as') (.ref (sz + k) :: us) := hAs
  have hk1 := hle.1
  have hk2 := hle.2
  refine x_back (D := D) (tys := tys) (w := w) (w' := w') (r := r) (a := (Value.ref (sz + k) :: us).toArray) ?_ hle hM hL hS2 kk
  exact va_runI (As := us) (rest := t2) (Ts := xTB) ⟨hx0, hb, hml, hown, hts⟩ (hmet _ hpx l D tys sz b) ⟨callB_of np hts (xGI hcode) rfl rfl rfl (hts _ hini0) (hts _ hw1) hdd ⟨by show d + 1 ≤ _; omega, by show 8 + (maxL + 11) + 64 * d ≤ _; omega⟩, hy, hts _ hw2⟩ ⟨xPc_blind, xPc_of hAs hws hz hK hmap hxN⟩ rfl (by rw [xRS_len hAs']; simpa using hlen) (by obtain ⟨-, lv, g, -⟩ := hL; exact g.1) (by simp) (by show 2 * 0 + _ ≤ 8; omega) hd ⟨by omega, by omega⟩
theorem s_invIN {index j np ci : Nat} {y : MethodName} {host : String} {bytes : ByteArray} {maxL : Nat} (hd : decode cc pc = .ok (.invokespecial index, 3)) (hq : xCal PX j y bytes maxL none np) (hw1 : (own, index, y, host) ∈ xNT) (hw2 : Cond.instanceMethod y ∈ xTB) (hy : y.name = "<init>") : xSound PX G cc own ini pc (x_invV ci j (np + 1) (pc + 3)) := by
  intro call d hc L S w pc' L' S' w' h
  obtain ⟨as, rest, r, w1, rfl, hlen, hob, hcat, hcall, hr⟩ := x_invV_eq h
  cases hr
  obtain ⟨hle, hmet⟩ := hc j as w r _ hcall
  obtain ⟨hpx, hcode, hini0, hml0, hdd⟩ := hq
  obtain ⟨k, fs, as', rfl, hk⟩ := xob_eq hob
  refine ⟨hle, ?_⟩
  intro p l e R s m args below meth c Q nL D tys sz b c0 s0 C1 hG hf hlo h1 h2 ls st H locs cells slots hM hL hS kk
  obtain ⟨t1, t2, rfl, hS1, hS2⟩ := xRS_split hS
  obtain ⟨hx0, hb, hml, hown, hts, hK, hmap, hin, hxN⟩ := C1
  obtain ⟨hws, hz, hS0, hM3, hM4, hM5⟩ := id hM
  have hcs := xcat_ok hS2
  have hAs : xRS sz b (.inr (.inl (some k)) :: as') t1.reverse := by
    have := xRS_rev hS1
    rwa [List.reverse_reverse] at this
  obtain ⟨u, us, hus, hu, hAs'⟩ := id hAs
  cases hu
  have ht1 : t1 = us.reverse ++ [.ref (sz + k)] := by rw [← List.reverse_reverse t1, hus]; simp
  subst ht1
  rw [List.reverse_append, List.reverse_reverse] at hAs
  have hAs : xRS sz b (.inr (.inl (some k)) :: as') (.ref (sz + k) :: us) := hAs
  have hk1 := hle.1
  have hk2 := hle.2
  refine x_back (D := D) (tys := tys) (w := w) (w' := w') (r := r) (a := (Value.ref (sz + k) :: us).toArray) ?_ hle hM hL hS2 kk
  exact va_runIN (As := us) (rest := t2) (Ts := xTB) ⟨hx0, hb, hml, hown, hts⟩ (hmet _ hpx l D tys sz b) ⟨va_cnB np hts (xGI hcode) rfl rfl rfl (hxN.1 _ hw1) (hts _ hini0) hdd ⟨by show d + 1 ≤ _; omega, by show 8 + (maxL + 11) + 64 * d ≤ _; omega⟩, hy, hts _ hw2⟩ ⟨xPc_blind, xPc_of hAs hws hz hK hmap hxN⟩ rfl (by rw [xRS_len hAs']; simpa using hlen) (by obtain ⟨-, lv, g, -⟩ := hL; exact g.1) (by simp) (by show 2 * 0 + _ ≤ 8; omega) hd ⟨by omega, by omega⟩
end XC
end
section
noncomputable def xrun (T : Nat → Option xF) (call : xC) : Nat → xS → Option xS := Nat.rec (fun _ => none) (fun _ ih st => match T st.1 with
  | none => some st
  | some f => match f call st.2.1 st.2.2.1 st.2.2.2 with
    | none => none
    | some st' => ih st')
theorem xrun_0 (T : Nat → Option xF) (call : xC) (st : xS) : xrun T call 0 st = none := rfl
theorem xrun_s (T : Nat → Option xF) (call : xC) (n : Nat) (st : xS) : xrun T call (n + 1) st = match T st.1 with
  | none => some st
  | some f => match f call st.2.1 st.2.2.1 st.2.2.2 with
    | none => none
    | some st' => xrun T call n st' := rfl
def xTree (PX : xPX) (G : State → Nat → Nat → Prop) (cc : ByteArray) (own : String) (ini : Bool) (T : Nat → Option xF) : Prop := ∀ (pc : Nat) (f : xF), T pc = some f → xSound PX G cc own ini pc f
theorem xLe_tr {a b c : xW} (h1 : xLe a b) (h2 : xLe b c) : xLe a c := ⟨Nat.le_trans h1.1 h2.1, Nat.le_trans h1.2 h2.2⟩
theorem xrun_ok {PX : xPX} {G : State → Nat → Nat → Prop} {cc : ByteArray} {own : String} {ini : Bool} {T : Nat → Option xF} {call : xC} {d : Nat} (hT : xTree PX G cc own ini T) (hc : xCalls PX d call) :
    ∀ (n pc : Nat) (L : List (Option xV)) (S : List xV) (w : xW) (pc' : Nat) (L' : List (Option xV)) (S' : List xV) (w' : xW), xrun T call n (pc, L, S, w) = some (pc', L', S', w') → xLe w w' ∧ xReach G cc own ini pc d L S w pc' L' S' w' := by
  intro n
  induction n with
  | zero => intro pc L S w pc' L' S' w' h; cases h
  | succ n ih =>
    intro pc L S w pc' L' S' w' h
    rw [xrun_s] at h
    cases hf : T pc with
    | none =>
      simp only [hf] at h
      cases h
      refine ⟨xLe_rf, ?_⟩
      intro p l e R s m args below meth c Q nL D tys sz b c0 s0 C hG hf hlo h1 h2 ls st H locs cells slots hM hL hS kk
      exact kk _ _ _ _ _ _ hM hL hS
    | some f =>
      simp only [hf] at h
      cases hs : f call L S w with
      | none => simp only [hs] at h; cases h
      | some q =>
        obtain ⟨pc1, L1, S1, w1⟩ := q
        simp only [hs] at h
        obtain ⟨a1, a2⟩ := hT pc f hf call d hc L S w pc1 L1 S1 w1 hs
        obtain ⟨b1, b2⟩ := ih pc1 L1 S1 w1 pc' L' S' w' h
        refine ⟨xLe_tr a1 b1, ?_⟩
        intro p l e R s m args below meth c Q nL D tys sz b c0 s0 C hG hf hlo h1 h2 ls st H locs cells slots hM hL hS kk
        exact a2 p l e R s m args below meth c Q nL D tys sz b c0 s0 C hG hf hlo (Nat.le_trans b1.1 h1) (Nat.le_trans b1.2 h2) ls st H locs cells slots hM hL hS (fun ls1 st1 H1 locs1 cells1 slots1 hM1 hL1 hS1 => b2 p l e R s m args below meth c Q nL D tys sz b c0 s0 C hG hf hlo h1 h2 ls1 st1 H1 locs1 cells1 slots1 hM1 hL1 hS1 kk)
/-! a method: its steps, its locals, where it returns -/
abbrev xT : Type := (Nat → Option xF) × Nat × List (Nat × Nat)
noncomputable def xrt (rs : List (Nat × Nat)) (pc : Nat) : Nat := List.rec 0 (fun q _ ih => bif Nat.beq q.1 pc then q.2 else ih) rs
/-- what is returned: 1 an int, 2 a boolean, 3 nothing, 4 a long -/
def xfin (k : Nat) (S : List xV) : Option (Option xV) := match k, S with
  | 1, [.inl a] => some (some (.inl a))
  | 2, [.inl a] => bif Nat.ble 2147483648 a.1 && Nat.ble a.2 2147483649 then some (some (.inl a)) else none
  | 3, [] => some none
  | 4, [.inr (.inr 0)] => some (some (.inr (.inr 0)))
  | _, _ => none
def xla : List xV → List (Option xV)
  | [] => []
  | .inr (.inr 0) :: as => some (.inr (.inr 0)) :: none :: xla as
  | v :: as => some v :: xla as
def xloc (n : Nat) (as : List xV) : List (Option xV) := xla as ++ List.replicate (n - (xla as).length) none
noncomputable def xcall (PT : Nat → Option xT) (fuel : Nat) : Nat → xC := Nat.rec (fun _ _ _ => none) (fun _ ih j as w => match PT j with
  | none => none
  | some q => bif Nat.ble (xla as).length q.2.1 then (match xrun q.1 ih fuel (0, xloc q.2.1 as, [], w) with
    | none => none
    | some r => match xfin (xrt q.2.2 r.1) r.2.2.1 with
      | none => none
      | some v => some (v, r.2.2.2)) else none)
theorem xcall_s (PT : Nat → Option xT) (fuel d j : Nat) (as : List xV) (w : xW) : xcall PT fuel (d + 1) j as w = match PT j with
  | none => none
  | some q => bif Nat.ble (xla as).length q.2.1 then (match xrun q.1 (xcall PT fuel d) fuel (0, xloc q.2.1 as, [], w) with
    | none => none
    | some r => match xfin (xrt q.2.2 r.1) r.2.2.1 with
      | none => none
      | some v => some (v, r.2.2.2)) else none := rfl
def xretok (cc : ByteArray) (ret : Option FieldType) (pc k : Nat) : Prop :=
  (k = 1 ∧ decode cc pc = .ok (.ireturn, 1) ∧ ret = some .int) ∨ (k = 2 ∧ decode cc pc = .ok (.ireturn, 1) ∧ ret = some .boolean) ∨ (k = 3 ∧ decode cc pc = .ok (.return_, 1) ∧ ret = none) ∨ (k = 4 ∧ decode cc pc = .ok (.lreturn, 1) ∧ ret = some .long)
def xMeth (PX : xPX) (j : Nat) (q : xT) : Prop := ∃ (y : MethodName) (cc : ByteArray) (ret : Option FieldType), PX j = some (y, cc, q.2.1, ret) ∧ plainName y.cls = true ∧ (∀ G, xTree PX G cc y.cls (y.name == "<init>") q.1) ∧ ∀ pc, ¬ xrt q.2.2 pc = 0 → xretok cc ret pc (xrt q.2.2 pc)
def xProg (PX : xPX) (PT : Nat → Option xT) : Prop := ∀ (j : Nat) (q : xT), PT j = some q → xMeth PX j q
theorem xla_len {sz b : Nat} : ∀ {as : List xV} {us : List Value}, xRS sz b as us → (lg_sl us).length = (xla as).length
  | [], us, h => by cases h; rfl
  | v :: as, us, h => by
    obtain ⟨u, us', rfl, hu, h2⟩ := h
    have ih := xla_len h2
    have e : lg_sl (u :: us') = (if u.category = 2 then [.val u, .second] else [.val u]) ++ lg_sl us' := rfl
    rw [e, List.length_append, ih]
    match v, hu with
    | .inl a, hu => obtain ⟨x, rfl, -⟩ := hu; show 1 + _ = (xla as).length + 1; omega
    | .inr (.inl none), hu => cases hu; show 1 + _ = (xla as).length + 1; omega
    | .inr (.inl (some k)), hu => cases hu; show 1 + _ = (xla as).length + 1; omega
    | .inr (.inr 0), hu => obtain ⟨x, rfl⟩ := hu; show 2 + _ = (xla as).length + 1 + 1; omega
    | .inr (.inr (k + 1)), hu => cases hu; show 1 + _ = (xla as).length + 1; omega
theorem xla_at {sz b : Nat} : ∀ {as : List xV} {us : List Value} (o : Nat), xRS sz b as us → ∀ (i : Nat) (v : xV), (xla as)[i]? = some (some v) → ∃ u, (o + i, u) ∈ lv_args o us ∧ xRV sz b v u
  | [], us, o, h, i, v, hi => by simp [xla] at hi
  | a :: as, us, o, h, i, v, hi => by
    obtain ⟨u, us', rfl, hu, h2⟩ := h
    have one : x1 a = true → xla (a :: as) = some a :: xla as := by
      intro h1
      match a, h1 with
      | .inl a, _ => rfl
      | .inr (.inl r), _ => rfl
      | .inr (.inr 0), h1 => cases h1
      | .inr (.inr (k + 1)), _ => rfl
    cases h1 : x1 a with
    | true =>
      rw [one h1] at hi
      have hc := xRV1 hu h1
      have e : lv_args o (u :: us') = (o, u) :: lv_args (o + 1) us' := by simp [lv_args, hc]
      rw [e]
      cases i with
      | zero =>
        simp only [List.getElem?_cons_zero, Option.some.injEq] at hi
        subst hi
        exact ⟨u, List.mem_cons_self, hu⟩
      | succ i =>
        simp only [List.getElem?_cons_succ] at hi
        obtain ⟨u2, h3, h4⟩ := xla_at (o + 1) h2 i v hi
        rw [show o + 1 + i = o + (i + 1) by omega] at h3
        exact ⟨u2, List.mem_cons_of_mem _ h3, h4⟩
    | false =>
      match a, h1, hu, hi with
      | .inr (.inr 0), _, hu, hi =>
        obtain ⟨x, rfl⟩ := id hu
        have e : lv_args o (.long x :: us') = (o, .long x) :: lv_args (o + 2) us' := rfl
        have e2 : xla (.inr (.inr 0) :: as) = some (.inr (.inr 0)) :: none :: xla as := rfl
        rw [e]
        rw [e2] at hi
        cases i with
        | zero =>
          simp only [List.getElem?_cons_zero, Option.some.injEq] at hi
          subst hi
          exact ⟨_, List.mem_cons_self, hu⟩
        | succ i =>
          cases i with
          | zero => simp at hi
          | succ i =>
            simp only [List.getElem?_cons_succ] at hi
            obtain ⟨u2, h3, h4⟩ := xla_at (o + 2) h2 i v hi
            rw [show o + 2 + i = o + (i + 1 + 1) by omega] at h3
            exact ⟨u2, List.mem_cons_of_mem _ h3, h4⟩
theorem xRL_entry {sz b n : Nat} {as : List xV} {us : List Value} (h : xRS sz b as us) (hn : (xla as).length ≤ n) : xRL sz b (xloc n as) ((lg_sl us ++ List.replicate (n - (lg_sl us).length) Slot.unset).toArray) n := by
  refine ⟨?_, lv_args 0 us, lv_entry us (by rw [xla_len h]; exact hn), fun i v hi => ?_⟩
  · unfold xloc
    rw [List.length_append, List.length_replicate]
    omega
  · rw [xget_eq] at hi
    unfold xloc at hi
    by_cases hl : i < (xla as).length
    · rw [List.getElem?_append_left hl] at hi
      obtain ⟨u, h1, h2⟩ := xla_at 0 h i v hi
      rw [Nat.zero_add] at h1
      exact ⟨u, h1, h2⟩
    · rw [List.getElem?_append_right (by omega), List.getElem?_replicate] at hi
      split at hi <;> cases hi
theorem xcall_ok {PX : xPX} {PT : Nat → Option xT} {fuel : Nat} (hP : xProg PX PT) : ∀ d, xCalls PX d (xcall PT fuel d) := by
  intro d
  induction d with
  | zero => intro j as w r w' h; cases h
  | succ d ih =>
    intro j as w r w' h
    rw [xcall_s] at h
    cases hq : PT j with
    | none => simp only [hq] at h; cases h
    | some q =>
      simp only [hq] at h
      cases hb : Nat.ble (xla as).length q.2.1 with
      | false => rw [hb] at h; cases h
      | true =>
        rw [hb] at h
        have hb := xble hb
        cases hr : xrun q.1 (xcall PT fuel d) fuel (0, xloc q.2.1 as, [], w) with
        | none => simp only [hr, cond_true] at h; cases h
        | some r1 =>
          obtain ⟨pc1, L1, S1, w1⟩ := r1
          simp only [hr, cond_true] at h
          cases hfi : xfin (xrt q.2.2 pc1) S1 with
          | none => simp only [hfi] at h; cases h
          | some v =>
            simp only [hfi] at h
            cases h
            obtain ⟨y, cc, ret, hpx, hpl, hTr, hrets⟩ := hP j q hq
            have hrun := fun G => xrun_ok (hTr G) ih fuel 0 _ _ _ _ _ _ _ hr
            refine ⟨(hrun (fun _ _ _ => True)).1, fun qx hqx => ?_⟩
            cases hpx.symm.trans hqx
            intro l D tys sz b
            have hle := (hrun (fun _ _ _ => True)).1
            refine Met.ofW (cc := cc) (maxL := q.2.1) (ret := ret) hpl rfl ?_
            intro p e s m args below meth c s₁ B hml hv
            obtain ⟨us, rfl, hus, hws, hsz, hK, hmap, hxN⟩ := hv
            have hts := atoms_spec (ws := .code y cc q.2.1 ret :: xTB) B.pre
            have hown : s.vm.findClass y.cls = some m.cls := findClass_of_methodNamed B.named
            have hnm : meth.name = y.name := (name_of_methodNamed B.named B.method).1
            have hlocks := B.notSynchronized
            have hret := B.returns
            have k1 := hle.1
            have k2 := hle.2
            rw [lg_entry_eq]
            refine (hrun (fun _ _ _ => True)).2 p l e _ s m us.toArray below meth c _ q.2.1 D tys sz b w.2.1 w.1 ⟨B.exec, B.bytes, hml, hown, fun w hw => hts w (List.mem_cons_of_mem _ hw), hK, hmap, fun hi => by rw [hnm]; simpa using hi, hxN⟩ trivial (Nat.le_refl _) (Nat.le_refl _) (by show w'.2.1 ≤ w.2.1 + (w'.2.1 - w.2.1); omega) (by show w'.1 ≤ w.1 + (w'.1 - w.1); omega) _ [] s.heap [] 0 0 ⟨hws, hsz, va_S.rf, by omega, by omega, hsz⟩ (xRL_entry hus hb) rfl ?_
            intro ls' st' H' locs' cells' slots' hM hL hS
            obtain ⟨hws', hsz', hS', hM3, hM4, hM5⟩ := hM
            obtain rfl : cells' = w'.2.1 - w.2.1 := by omega
            obtain rfl : slots' = w'.1 - w.1 := by omega
            have hfr : ∀ q ∈ locs', (fun a => sz ≤ a) q.base := hS'.2.2
            have hxQ : ∀ (v' : Option Value), xRO sz b r v' → ∀ t : State, t.heap = H' → s.WarmedH t.vm → xQc D tys sz b r w' us.toArray s (.returned v') t := fun v' hv' t ht _ => ⟨v', rfl, hv', by rw [ht]; exact hws', by rw [ht]; exact hsz', hS'.F ht⟩
            have hne : ¬ xrt q.2.2 pc1 = 0 := fun h0 => by rw [h0] at hfi; cases hfi
            have hok := hrets pc1 hne
            generalize xrt q.2.2 pc1 = k at hfi hok
            rcases hok with ⟨rfl, hd, hre⟩ | ⟨rfl, hd, hre⟩ | ⟨rfl, hd, hre⟩ | ⟨rfl, hd, hre⟩
            · match S1, hfi, hS with
              | [.inl a], hfi, hS =>
                cases hfi
                obtain ⟨u, st2, rfl, ⟨x, rfl, hx⟩, rfl⟩ := hS
                exact W.iret B.exec B.bytes (by rw [hret, hre]) (hxQ _ ⟨_, rfl, x, rfl, hx⟩) hfr hd
            · match S1, hfi, hS with
              | [.inl a], hfi, hS =>
                obtain ⟨u, st2, rfl, ⟨x, rfl, hx⟩, rfl⟩ := hS
                cases hbb : (Nat.ble 2147483648 a.1 && Nat.ble a.2 2147483649) with
                | false => simp only [xfin, hbb] at hfi; cases hfi
                | true =>
                  simp only [xfin, hbb, cond_true] at hfi
                  cases hfi
                  simp only [Bool.and_eq_true] at hbb
                  have hnar : narrow .boolean (.int x) = .int x := by
                    rcases xz1 (x := x) (Nat.le_trans (xble hbb.1) hx.1) (Nat.le_trans hx.2 (xble hbb.2)) with rfl | rfl <;> decide +kernel
                  exact W.zret B.exec B.bytes (by rw [hret, hre]) hnar (hxQ _ ⟨_, rfl, x, rfl, hx⟩) hfr hd
            · match S1, hfi, hS with
              | [], hfi, hS =>
                cases hfi
                cases hS
                exact W.vret B.exec B.bytes (by rw [hret, hre]) (hxQ _ rfl) hfr hd
            · match S1, hfi, hS with
              | [.inr (.inr 0)], hfi, hS =>
                cases hfi
                obtain ⟨u, st2, rfl, ⟨x, rfl⟩, rfl⟩ := hS
                exact W.lret B.exec B.bytes (by rw [hret, hre]) (hxQ _ ⟨_, rfl, x, rfl⟩) hfr hd
end
section
section XM
variable {PX : xPX} {G : State → Nat → Nat → Prop} {cc : ByteArray} {own : String} {ini : Bool} {pc : Nat}
def xfmax (a b : Nat) : Nat := bif Nat.blt a b then b else a
def xfmin (a b : Nat) : Nat := bif Nat.blt b a then b else a
theorem xblt_iff (a b : Nat) : Nat.blt a b = decide (a < b) := by
  cases h : Nat.blt a b with
  | true => exact (decide_eq_true (xblt h)).symm
  | false =>
    refine (decide_eq_false fun q => ?_).symm
    have : Nat.blt a b = true := Nat.ble_eq_true_of_le q
    rw [h] at this
    cases this
theorem xo_max (x y : Int32) : xo (if x < y then y else x) = xfmax (xo x) (xo y) := by
  unfold xfmax
  rw [xblt_iff]
  by_cases h : x < y
  · rw [if_pos h, decide_eq_true (xo_lt_iff.mp h)]
    rfl
  · rw [if_neg h, decide_eq_false (fun q => h (xo_lt_iff.mpr q))]
    rfl
theorem xo_min (x y : Int32) : xo (if y < x then y else x) = xfmin (xo x) (xo y) := by
  unfold xfmin
  rw [xblt_iff]
  by_cases h : y < x
  · rw [if_pos h, decide_eq_true (xo_lt_iff.mp h)]
    rfl
  · rw [if_neg h, decide_eq_false (fun q => h (xo_lt_iff.mpr q))]
    rfl
noncomputable def x_math (f : Nat → Nat → Nat) (n : Nat) : xF := fun _ L S w => match S with
  | .inl b :: .inl a :: S => bif Nat.ble (xcat S) 8 then some (n, L, .inl (xbin f a b) :: S, w) else none
  | _ => none
theorem x_math_eq {f : Nat → Nat → Nat} {n : Nat} {call : xC} {L : List (Option xV)} {S : List xV} {w : xW} {r : xS} (h : x_math f n call L S w = some r) : ∃ b a S0, S = .inl b :: .inl a :: S0 ∧ xcat S0 ≤ 8 ∧ r = (n, L, .inl (xbin f a b) :: S0, w) := by
  unfold x_math at h
  split at h
  · rename_i b a S0
    cases hb : Nat.ble (xcat S0) 8 with
    | false => rw [hb] at h; cases h
    | true =>
      rw [hb] at h
      exact ⟨_, _, _, rfl, xble hb, (Option.some.inj h).symm⟩
  · cases h
theorem s_max {index : Nat} (hd : decode cc pc = .ok (.invokestatic index, 3)) (hw1 : Cond.methodLink own index Lib.Math.max.name ∈ xTB) (hw2 : Cond.static Lib.Math.max.name ∈ xTB) (hw3 : Cond.initialized "java/lang/Math" ∈ xTB) (hw4 : Cond.code Lib.Math.max.name Lib.Math.max.code 2 (some .int) ∈ xTB) : xSound PX G cc own ini pc (x_math xfmax (pc + 3)) := by
  intro call d hc L S w pc' L' S' w' h
  obtain ⟨b2, a2, S0, rfl, hcat, hr⟩ := x_math_eq h
  cases hr
  refine ⟨xLe_rf, ?_⟩
  intro p l e R s m args below meth c Q nL D tys sz b c0 s0 C1 hG hf hlo h1 h2 ls st H locs cells slots hM hL hS kk
  obtain ⟨u, st', rfl, ⟨y, rfl, hy⟩, u2, st2, rfl, ⟨x, rfl, hx⟩, hS⟩ := hS
  have hcs := xcat_ok hS
  obtain ⟨-, -, -, hM3, hM4, -⟩ := id hM
  exact va_mmax C1.1 C1.2.1 (by rw [C1.2.2.1]; obtain ⟨-, lv, g, -⟩ := hL; exact g.1.symm) C1.2.2.2.1 (C1.2.2.2.2.1 _ hw1) (C1.2.2.2.2.1 _ hw2) (C1.2.2.2.2.1 _ hw3) (C1.2.2.2.2.1 _ hw4) (by omega) (by omega) (by omega) (by omega) hd (kk _ _ _ _ _ _ hM hL ⟨_, _, rfl, ⟨_, rfl, xbin_ok hx hy (xo_max x y)⟩, hS⟩)
theorem s_min {index : Nat} (hd : decode cc pc = .ok (.invokestatic index, 3)) (hw1 : Cond.methodLink own index Lib.Math.min.name ∈ xTB) (hw2 : Cond.static Lib.Math.min.name ∈ xTB) (hw3 : Cond.initialized "java/lang/Math" ∈ xTB) (hw4 : Cond.code Lib.Math.min.name Lib.Math.min.code 2 (some .int) ∈ xTB) : xSound PX G cc own ini pc (x_math xfmin (pc + 3)) := by
  intro call d hc L S w pc' L' S' w' h
  obtain ⟨b2, a2, S0, rfl, hcat, hr⟩ := x_math_eq h
  cases hr
  refine ⟨xLe_rf, ?_⟩
  intro p l e R s m args below meth c Q nL D tys sz b c0 s0 C1 hG hf hlo h1 h2 ls st H locs cells slots hM hL hS kk
  obtain ⟨u, st', rfl, ⟨y, rfl, hy⟩, u2, st2, rfl, ⟨x, rfl, hx⟩, hS⟩ := hS
  have hcs := xcat_ok hS
  obtain ⟨-, -, -, hM3, hM4, -⟩ := id hM
  exact va_mmin C1.1 C1.2.1 (by rw [C1.2.2.1]; obtain ⟨-, lv, g, -⟩ := hL; exact g.1.symm) C1.2.2.2.1 (C1.2.2.2.2.1 _ hw1) (C1.2.2.2.2.1 _ hw2) (C1.2.2.2.2.1 _ hw3) (C1.2.2.2.2.1 _ hw4) (by omega) (by omega) (by omega) (by omega) hd (kk _ _ _ _ _ _ hM hL ⟨_, _, rfl, ⟨_, rfl, xbin_ok hx hy (xo_min x y)⟩, hS⟩)
end XM
end
section
/-! ===== THE PROGRAM: words of the tables by their places, the methods by number ===== -/
def bn {α : Type} (k : Nat) (a b : Nat → Option α) : Nat → Option α := fun pc => bif Nat.blt pc k then a pc else b pc
def bl {α : Type} (k : Nat) (v : α) : Nat → Option α := fun pc => bif Nat.beq pc k then some v else none
theorem xB_n {α : Type} {P : Nat → α → Prop} {k : Nat} {a b : Nat → Option α} (ha : ∀ pc f, a pc = some f → P pc f) (hb : ∀ pc f, b pc = some f → P pc f) : ∀ pc f, bn k a b pc = some f → P pc f := by
  intro pc f h
  unfold bn at h
  cases hc : Nat.blt pc k with
  | true => rw [hc] at h; exact ha pc f h
  | false => rw [hc] at h; exact hb pc f h
theorem xB_l {α : Type} {P : Nat → α → Prop} {k : Nat} {v : α} (h0 : P k v) : ∀ pc f, bl k v pc = some f → P pc f := by
  intro pc f h
  unfold bl at h
  cases hc : Nat.beq pc k with
  | true =>
    rw [hc] at h
    have e := Nat.eq_of_beq_eq_true hc
    cases h
    rw [e]
    exact h0
  | false => rw [hc] at h; cases h
theorem xT_n {PX : xPX} {G : State → Nat → Nat → Prop} {cc : ByteArray} {own : String} {ini : Bool} {k : Nat} {a b : Nat → Option xF} (ha : xTree PX G cc own ini a) (hb : xTree PX G cc own ini b) : xTree PX G cc own ini (bn k a b) := xB_n ha hb
theorem xT_l {PX : xPX} {G : State → Nat → Nat → Prop} {cc : ByteArray} {own : String} {ini : Bool} {k : Nat} {f : xF} (h : xSound PX G cc own ini k f) : xTree PX G cc own ini (bl k f) := xB_l h
theorem xR_n {cc : ByteArray} {ret : Option FieldType} : ∀ q ∈ ([] : List (Nat × Nat)), xretok cc ret q.1 q.2 := fun _ h => absurd h List.not_mem_nil
theorem xR_c {cc : ByteArray} {ret : Option FieldType} {pc k : Nat} {l : List (Nat × Nat)} (h : xretok cc ret pc k) (hl : ∀ q ∈ l, xretok cc ret q.1 q.2) : ∀ q ∈ ((pc, k) :: l), xretok cc ret q.1 q.2 := by
  intro q hq
  rcases List.mem_cons.mp hq with rfl | hq
  · exact h
  · exact hl q hq
theorem xrt_ok {cc : ByteArray} {ret : Option FieldType} : ∀ {l : List (Nat × Nat)}, (∀ q ∈ l, xretok cc ret q.1 q.2) → ∀ pc, ¬ xrt l pc = 0 → xretok cc ret pc (xrt l pc)
  | [], _, pc, h => absurd rfl h
  | q :: l, hl, pc, h => by
    have e : xrt (q :: l) pc = bif Nat.beq q.1 pc then q.2 else xrt l pc := rfl
    rw [e] at h ⊢
    cases hc : Nat.beq q.1 pc with
    | true =>
      have e2 := Nat.eq_of_beq_eq_true hc
      rw [← e2]
      exact hl q List.mem_cons_self
    | false =>
      rw [hc] at h
      exact xrt_ok (fun q hq => hl q (List.mem_cons_of_mem _ hq)) pc h
theorem xTsw {pc : Nat} {offs : Array Int} {ts : List Nat} (hl : offs.size = ts.length) (h : (List.range ts.length).all (fun i => decide ((pc : Int) + offs.getD i 0 = ((ts.getD i 0 : Nat) : Int))) = true) : ∀ (i t : Nat), xget ts i = some t → ∃ off, offs[i]? = some off ∧ (pc : Int) + off = (t : Int) := by
  intro i t hi
  rw [xget_eq] at hi
  have hlt : i < ts.length := (List.getElem?_eq_some_iff.mp hi).1
  have h2 := List.all_eq_true.mp h i (List.mem_range.mpr hlt)
  have hlt2 : i < offs.size := by omega
  refine ⟨offs[i], Array.getElem?_eq_getElem hlt2, ?_⟩
  have e1 : offs.getD i 0 = offs[i] := by simp [Array.getD, hlt2]
  have e2 : ts.getD i 0 = t := by simp [List.getD, hi]
  rw [e1, e2] at h2
  exact of_decide_eq_true h2
set_option maxRecDepth 100000 in
theorem wd_0 : Cond.selects "CapitalCase$Script" ⟨"CapitalCase$Script", "layDown", "(III)V"⟩ ⟨"CapitalCase$Script", "layDown", "(III)V"⟩ ∈ xTB := xw 0 (by decide +kernel) (by decide +kernel)
set_option maxRecDepth 100000 in
theorem wd_1 : Cond.selects "CapitalCase" ⟨"CapitalCase", "append", "(I)V"⟩ ⟨"CapitalCase", "append", "(I)V"⟩ ∈ xTB := xw 1 (by decide +kernel) (by decide +kernel)
set_option maxRecDepth 100000 in
theorem wd_2 : Cond.selects "CapitalCase$Parser" ⟨"CapitalCase$Parser", "next", "()I"⟩ ⟨"CapitalCase$Parser", "next", "()I"⟩ ∈ xTB := xw 2 (by decide +kernel) (by decide +kernel)
set_option maxRecDepth 100000 in
theorem wd_18 : Cond.selects "CapitalCase" ⟨"CapitalCase", "beginAnew", "()V"⟩ ⟨"CapitalCase", "beginAnew", "()V"⟩ ∈ xTB := xw 18 (by decide +kernel) (by decide +kernel)
set_option maxRecDepth 100000 in
theorem wd_19 : Cond.selects "CapitalCase" ⟨"CapitalCase", "isCell", "(II)Z"⟩ ⟨"CapitalCase", "isCell", "(II)Z"⟩ ∈ xTB := xw 19 (by decide +kernel) (by decide +kernel)
set_option maxRecDepth 100000 in
theorem wd_20 : Cond.selects "CapitalCase" ⟨"CapitalCase", "isHouse", "(I)Z"⟩ ⟨"CapitalCase", "isHouse", "(I)Z"⟩ ∈ xTB := xw 20 (by decide +kernel) (by decide +kernel)
set_option maxRecDepth 100000 in
theorem wd_23 : Cond.selects "CapitalCase" ⟨"CapitalCase", "isVerse", "(I)Z"⟩ ⟨"CapitalCase", "isVerse", "(I)Z"⟩ ∈ xTB := xw 23 (by decide +kernel) (by decide +kernel)
set_option maxRecDepth 100000 in
theorem wd_31 : Cond.selects "CapitalCase$Press" ⟨"CapitalCase$Press", "steal", "(LCapitalCase$Town;I)V"⟩ ⟨"CapitalCase$Press", "steal", "(LCapitalCase$Town;I)V"⟩ ∈ xTB := xw 31 (by decide +kernel) (by decide +kernel)
set_option maxRecDepth 100000 in
theorem wd_32 : Cond.selects "CapitalCase$Planner" ⟨"CapitalCase$Planner", "search", "()V"⟩ ⟨"CapitalCase$Planner", "search", "()V"⟩ ∈ xTB := xw 32 (by decide +kernel) (by decide +kernel)
set_option maxRecDepth 100000 in
theorem wd_33 : Cond.selects "CapitalCase$Planner" ⟨"CapitalCase$Planner", "keepIfMore", "(II)V"⟩ ⟨"CapitalCase$Planner", "keepIfMore", "(II)V"⟩ ∈ xTB := xw 33 (by decide +kernel) (by decide +kernel)
set_option maxRecDepth 100000 in
theorem wd_34 : Cond.selects "CapitalCase$TwoDays" ⟨"CapitalCase$TwoDays", "total", "([II)I"⟩ ⟨"CapitalCase$TwoDays", "total", "([II)I"⟩ ∈ xTB := xw 34 (by decide +kernel) (by decide +kernel)
set_option maxRecDepth 100000 in
theorem wd_35 : Cond.selects "CapitalCase$TwoDays" ⟨"CapitalCase$TwoDays", "takeAll", "(I)Z"⟩ ⟨"CapitalCase$TwoDays", "takeAll", "(I)Z"⟩ ∈ xTB := xw 35 (by decide +kernel) (by decide +kernel)
set_option maxRecDepth 100000 in
theorem wd_36 : Cond.selects "CapitalCase$TwoDays" ⟨"CapitalCase$TwoDays", "giveUpAll", "(I)V"⟩ ⟨"CapitalCase$TwoDays", "giveUpAll", "(I)V"⟩ ∈ xTB := xw 36 (by decide +kernel) (by decide +kernel)
set_option maxRecDepth 100000 in
theorem wd_37 : Cond.selects "CapitalCase$TwoDays" ⟨"CapitalCase$TwoDays", "passFirst", "(LCapitalCase$Town;I)V"⟩ ⟨"CapitalCase$TwoDays", "passFirst", "(LCapitalCase$Town;I)V"⟩ ∈ xTB := xw 37 (by decide +kernel) (by decide +kernel)
set_option maxRecDepth 100000 in
theorem wd_42 : Cond.selects "CapitalCase" ⟨"CapitalCase", "heldSlots", "()I"⟩ ⟨"CapitalCase", "heldSlots", "()I"⟩ ∈ xTB := xw 42 (by decide +kernel) (by decide +kernel)
set_option maxRecDepth 100000 in
theorem wd_43 : Cond.selects "CapitalCase" ⟨"CapitalCase", "settable", "()I"⟩ ⟨"CapitalCase", "settable", "()I"⟩ ∈ xTB := xw 43 (by decide +kernel) (by decide +kernel)
set_option maxRecDepth 100000 in
theorem wd_44 : Cond.selects "CapitalCaseModel" ⟨"CapitalCaseModel", "plain", "(I)V"⟩ ⟨"CapitalCaseModel", "plain", "(I)V"⟩ ∈ xTB := xw 44 (by decide +kernel) (by decide +kernel)
set_option maxRecDepth 100000 in
theorem wd_45 : Cond.selects "CapitalCaseModel" ⟨"CapitalCaseModel", "begins", "()V"⟩ ⟨"CapitalCaseModel", "begins", "()V"⟩ ∈ xTB := xw 45 (by decide +kernel) (by decide +kernel)
set_option maxRecDepth 100000 in
theorem wd_46 : Cond.selects "CapitalCaseModel" ⟨"CapitalCaseModel", "keepsRow", "()V"⟩ ⟨"CapitalCaseModel", "keepsRow", "()V"⟩ ∈ xTB := xw 46 (by decide +kernel) (by decide +kernel)
set_option maxRecDepth 100000 in
theorem wd_47 : Cond.selects "CapitalCaseModel" ⟨"CapitalCaseModel", "put", "(I)V"⟩ ⟨"CapitalCaseModel", "put", "(I)V"⟩ ∈ xTB := xw 47 (by decide +kernel) (by decide +kernel)
set_option maxRecDepth 100000 in
theorem wd_48 : Cond.selects "CapitalCaseModel" ⟨"CapitalCaseModel", "cut", "()V"⟩ ⟨"CapitalCaseModel", "cut", "()V"⟩ ∈ xTB := xw 48 (by decide +kernel) (by decide +kernel)
set_option maxRecDepth 100000 in
theorem wd_49 : Cond.selects "CapitalCaseModel" ⟨"CapitalCaseModel", "byteAt", "(I)I"⟩ ⟨"CapitalCaseModel", "byteAt", "(I)I"⟩ ∈ xTB := xw 49 (by decide +kernel) (by decide +kernel)
set_option maxRecDepth 100000 in
theorem wd_50 : Cond.selects "CapitalCaseModel" ⟨"CapitalCaseModel", "token", "(IIIJ)V"⟩ ⟨"CapitalCaseModel", "token", "(IIIJ)V"⟩ ∈ xTB := xw 50 (by decide +kernel) (by decide +kernel)
set_option maxRecDepth 100000 in
theorem wd_52 : Cond.selects "CapitalCaseModel" ⟨"CapitalCaseModel", "is", "(I)Z"⟩ ⟨"CapitalCaseModel", "is", "(I)Z"⟩ ∈ xTB := xw 52 (by decide +kernel) (by decide +kernel)
set_option maxRecDepth 100000 in
theorem wd_72 : Cond.selects "CapitalCaseModel" ⟨"CapitalCaseModel", "isHouse", "(I)Z"⟩ ⟨"CapitalCaseModel", "isHouse", "(I)Z"⟩ ∈ xTB := xw 72 (by decide +kernel) (by decide +kernel)
set_option maxRecDepth 100000 in
theorem wd_73 : Cond.selects "CapitalCaseModel" ⟨"CapitalCaseModel", "copies", "()V"⟩ ⟨"CapitalCaseModel", "copies", "()V"⟩ ∈ xTB := xw 73 (by decide +kernel) (by decide +kernel)
set_option maxRecDepth 100000 in
theorem wd_82 : Cond.selects "CapitalCaseModel" ⟨"CapitalCaseModel", "isVerse", "(I)Z"⟩ ⟨"CapitalCaseModel", "isVerse", "(I)Z"⟩ ∈ xTB := xw 82 (by decide +kernel) (by decide +kernel)
set_option maxRecDepth 100000 in
theorem wd_91 : Cond.selects "CapitalCaseModel" ⟨"CapitalCaseModel", "records", "()V"⟩ ⟨"CapitalCaseModel", "records", "()V"⟩ ∈ xTB := xw 91 (by decide +kernel) (by decide +kernel)
set_option maxRecDepth 100000 in
theorem wd_92 : Cond.selects "CapitalCaseModel" ⟨"CapitalCaseModel", "areTwo", "(III)Z"⟩ ⟨"CapitalCaseModel", "areTwo", "(III)Z"⟩ ∈ xTB := xw 92 (by decide +kernel) (by decide +kernel)
set_option maxRecDepth 100000 in
theorem wd_93 : Cond.selects "CapitalCaseModel" ⟨"CapitalCaseModel", "goes", "(I)V"⟩ ⟨"CapitalCaseModel", "goes", "(I)V"⟩ ∈ xTB := xw 93 (by decide +kernel) (by decide +kernel)
set_option maxRecDepth 100000 in
theorem wd_94 : Cond.selects "CapitalCaseModel" ⟨"CapitalCaseModel", "dayGoes", "()V"⟩ ⟨"CapitalCaseModel", "dayGoes", "()V"⟩ ∈ xTB := xw 94 (by decide +kernel) (by decide +kernel)
set_option maxRecDepth 100000 in
theorem wd_96 : Cond.selects "CapitalCaseModel" ⟨"CapitalCaseModel", "areThieves", "()Z"⟩ ⟨"CapitalCaseModel", "areThieves", "()Z"⟩ ∈ xTB := xw 96 (by decide +kernel) (by decide +kernel)
set_option maxRecDepth 100000 in
theorem wd_97 : Cond.selects "CapitalCaseModel" ⟨"CapitalCaseModel", "lotOf", "(II)I"⟩ ⟨"CapitalCaseModel", "lotOf", "(II)I"⟩ ∈ xTB := xw 97 (by decide +kernel) (by decide +kernel)
set_option maxRecDepth 100000 in
theorem wd_99 : Cond.selects "CapitalCaseModel" ⟨"CapitalCaseModel", "findsBest", "()V"⟩ ⟨"CapitalCaseModel", "findsBest", "()V"⟩ ∈ xTB := xw 99 (by decide +kernel) (by decide +kernel)
set_option maxRecDepth 100000 in
theorem wd_100 : Cond.selects "CapitalCaseModel" ⟨"CapitalCaseModel", "openBits", "()I"⟩ ⟨"CapitalCaseModel", "openBits", "()I"⟩ ∈ xTB := xw 100 (by decide +kernel) (by decide +kernel)
set_option maxRecDepth 100000 in
theorem wd_101 : Cond.selects "CapitalCaseModel" ⟨"CapitalCaseModel", "keepsAhead", "()V"⟩ ⟨"CapitalCaseModel", "keepsAhead", "()V"⟩ ∈ xTB := xw 101 (by decide +kernel) (by decide +kernel)
set_option maxRecDepth 100000 in
theorem wd_103 : Cond.selects "CapitalCaseModel" ⟨"CapitalCaseModel", "firstDay", "(I)I"⟩ ⟨"CapitalCaseModel", "firstDay", "(I)I"⟩ ∈ xTB := xw 103 (by decide +kernel) (by decide +kernel)
set_option maxRecDepth 100000 in
theorem wd_107 : Cond.selects "CapitalCaseModel" ⟨"CapitalCaseModel", "whoseBits", "(I)I"⟩ ⟨"CapitalCaseModel", "whoseBits", "(I)I"⟩ ∈ xTB := xw 107 (by decide +kernel) (by decide +kernel)
set_option maxRecDepth 100000 in
theorem wd_108 : Cond.selects "CapitalCaseModel" ⟨"CapitalCaseModel", "versesSo", "(II)I"⟩ ⟨"CapitalCaseModel", "versesSo", "(II)I"⟩ ∈ xTB := xw 108 (by decide +kernel) (by decide +kernel)
set_option maxRecDepth 100000 in
theorem wd_109 : Cond.selects "CapitalCaseModel" ⟨"CapitalCaseModel", "sumNow", "(II)I"⟩ ⟨"CapitalCaseModel", "sumNow", "(II)I"⟩ ∈ xTB := xw 109 (by decide +kernel) (by decide +kernel)
set_option maxRecDepth 100000 in
theorem wd_111 : Cond.initialized "CapitalCase" ∈ xTB := xw 111 (by decide +kernel) (by decide +kernel)
set_option maxRecDepth 100000 in
theorem wd_112 : Cond.initialized "CapitalCase$Script" ∈ xTB := xw 112 (by decide +kernel) (by decide +kernel)
set_option maxRecDepth 100000 in
theorem wd_113 : Cond.initialized "java/util/Arrays" ∈ xTB := xw 113 (by decide +kernel) (by decide +kernel)
set_option maxRecDepth 100000 in
theorem wd_114 : Cond.initialized "CapitalCase$Parser" ∈ xTB := xw 114 (by decide +kernel) (by decide +kernel)
set_option maxRecDepth 100000 in
theorem wd_115 : Cond.initialized "CapitalCase$Tokens" ∈ xTB := xw 115 (by decide +kernel) (by decide +kernel)
set_option maxRecDepth 100000 in
theorem wd_116 : Cond.initialized "CapitalCase$Town" ∈ xTB := xw 116 (by decide +kernel) (by decide +kernel)
set_option maxRecDepth 100000 in
theorem wd_117 : Cond.initialized "CapitalCase$History" ∈ xTB := xw 117 (by decide +kernel) (by decide +kernel)
set_option maxRecDepth 100000 in
theorem wd_118 : Cond.initialized "CapitalCase$Prints" ∈ xTB := xw 118 (by decide +kernel) (by decide +kernel)
set_option maxRecDepth 100000 in
theorem wd_119 : Cond.initialized "CapitalCase$Judge" ∈ xTB := xw 119 (by decide +kernel) (by decide +kernel)
set_option maxRecDepth 100000 in
theorem wd_120 : Cond.initialized "CapitalCase$Press" ∈ xTB := xw 120 (by decide +kernel) (by decide +kernel)
set_option maxRecDepth 100000 in
theorem wd_121 : Cond.initialized "CapitalCase$Planner" ∈ xTB := xw 121 (by decide +kernel) (by decide +kernel)
set_option maxRecDepth 100000 in
theorem wd_122 : Cond.initialized "CapitalCase$TwoDays" ∈ xTB := xw 122 (by decide +kernel) (by decide +kernel)
set_option maxRecDepth 100000 in
theorem wd_123 : Cond.initialized "CapitalCase$Trade" ∈ xTB := xw 123 (by decide +kernel) (by decide +kernel)
set_option maxRecDepth 100000 in
theorem wd_124 : Cond.initialized "CapitalCaseModel" ∈ xTB := xw 124 (by decide +kernel) (by decide +kernel)
set_option maxRecDepth 100000 in
theorem wd_129 : Cond.initialized "java/lang/Math" ∈ xTB := xw 129 (by decide +kernel) (by decide +kernel)
set_option maxRecDepth 100000 in
theorem wd_131 : Cond.initialized "java/lang/System" ∈ xTB := xw 131 (by decide +kernel) (by decide +kernel)
set_option maxRecDepth 100000 in
theorem wd_132 : Cond.initialized "java/lang/Integer" ∈ xTB := xw 132 (by decide +kernel) (by decide +kernel)
set_option maxRecDepth 100000 in
theorem wd_133 : Cond.classLink "CapitalCaseLaw" 7 "CapitalCase" ∈ xTB := xw 133 (by decide +kernel) (by decide +kernel)
set_option maxRecDepth 100000 in
theorem wd_134 : Cond.instantiable "CapitalCase" 16 ∈ xTB := xw 134 (by decide +kernel) (by decide +kernel)
set_option maxRecDepth 100000 in
theorem wd_135 : Cond.methodLink "CapitalCaseLaw" 9 ⟨"CapitalCase", "<init>", "()V"⟩ ∈ xTB := xw 135 (by decide +kernel) (by decide +kernel)
set_option maxRecDepth 100000 in
theorem wd_136 : Cond.instanceMethod ⟨"CapitalCase", "<init>", "()V"⟩ ∈ xTB := xw 136 (by decide +kernel) (by decide +kernel)
set_option maxRecDepth 100000 in
theorem wd_138 : Cond.methodLink "CapitalCase" 3 ⟨"java/lang/Object", "<init>", "()V"⟩ ∈ xTB := xw 138 (by decide +kernel) (by decide +kernel)
set_option maxRecDepth 100000 in
theorem wd_139 : Cond.instanceMethod ⟨"java/lang/Object", "<init>", "()V"⟩ ∈ xTB := xw 139 (by decide +kernel) (by decide +kernel)
set_option maxRecDepth 100000 in
theorem wd_141 : Cond.classLink "CapitalCase" 20 "CapitalCase$Script" ∈ xTB := xw 141 (by decide +kernel) (by decide +kernel)
set_option maxRecDepth 100000 in
theorem wd_142 : Cond.instantiable "CapitalCase$Script" 15 ∈ xTB := xw 142 (by decide +kernel) (by decide +kernel)
set_option maxRecDepth 100000 in
theorem wd_143 : Cond.methodLink "CapitalCase" 22 ⟨"CapitalCase$Script", "<init>", "()V"⟩ ∈ xTB := xw 143 (by decide +kernel) (by decide +kernel)
set_option maxRecDepth 100000 in
theorem wd_144 : Cond.instanceMethod ⟨"CapitalCase$Script", "<init>", "()V"⟩ ∈ xTB := xw 144 (by decide +kernel) (by decide +kernel)
set_option maxRecDepth 100000 in
theorem wd_146 : Cond.methodLink "CapitalCase$Script" 7 ⟨"java/lang/Object", "<init>", "()V"⟩ ∈ xTB := xw 146 (by decide +kernel) (by decide +kernel)
set_option maxRecDepth 100000 in
theorem wd_147 : Cond.methodLink "CapitalCase$Script" 41 ⟨"CapitalCase$Script", "wipe", "()V"⟩ ∈ xTB := xw 147 (by decide +kernel) (by decide +kernel)
set_option maxRecDepth 100000 in
theorem wd_148 : Cond.instanceMethod ⟨"CapitalCase$Script", "wipe", "()V"⟩ ∈ xTB := xw 148 (by decide +kernel) (by decide +kernel)
set_option maxRecDepth 100000 in
theorem wd_149 : Cond.selects "CapitalCase$Script" ⟨"CapitalCase$Script", "wipe", "()V"⟩ ⟨"CapitalCase$Script", "wipe", "()V"⟩ ∈ xTB := xw 149 (by decide +kernel) (by decide +kernel)
set_option maxRecDepth 100000 in
theorem wd_151 : Cond.methodLink "CapitalCase$Script" 60 ⟨"java/util/Arrays", "fill", "([II)V"⟩ ∈ xTB := xw 151 (by decide +kernel) (by decide +kernel)
set_option maxRecDepth 100000 in
theorem wd_152 : Cond.static ⟨"java/util/Arrays", "fill", "([II)V"⟩ ∈ xTB := xw 152 (by decide +kernel) (by decide +kernel)
set_option maxRecDepth 100000 in
theorem wd_154 : Cond.methodLink "CapitalCase$Script" 69 ⟨"CapitalCase$Script", "layDown", "(III)V"⟩ ∈ xTB := xw 154 (by decide +kernel) (by decide +kernel)
set_option maxRecDepth 100000 in
theorem wd_156 : Cond.instanceMethod ⟨"CapitalCase$Script", "layDown", "(III)V"⟩ ∈ xTB := xw 156 (by decide +kernel) (by decide +kernel)
set_option maxRecDepth 100000 in
theorem wd_158 : Cond.methodLink "CapitalCase$Script" 75 ⟨"CapitalCase$Script", "add", "(II)V"⟩ ∈ xTB := xw 158 (by decide +kernel) (by decide +kernel)
set_option maxRecDepth 100000 in
theorem wd_159 : Cond.instanceMethod ⟨"CapitalCase$Script", "add", "(II)V"⟩ ∈ xTB := xw 159 (by decide +kernel) (by decide +kernel)
set_option maxRecDepth 100000 in
theorem wd_160 : Cond.selects "CapitalCase$Script" ⟨"CapitalCase$Script", "add", "(II)V"⟩ ⟨"CapitalCase$Script", "add", "(II)V"⟩ ∈ xTB := xw 160 (by decide +kernel) (by decide +kernel)
set_option maxRecDepth 100000 in
theorem wd_162 : Cond.fieldLink "CapitalCase$Script" 44 "CapitalCase$Script" "houses" "I" ∈ xTB := xw 162 (by decide +kernel) (by decide +kernel)
set_option maxRecDepth 100000 in
theorem wd_163 : Cond.fieldLink "CapitalCase$Trade" 33 "CapitalCase$Script" "houses" "I" ∈ xTB := xw 163 (by decide +kernel) (by decide +kernel)
set_option maxRecDepth 100000 in
theorem wd_165 : Cond.fieldLink "CapitalCase$Press" 57 "CapitalCase$Script" "houses" "I" ∈ xTB := xw 165 (by decide +kernel) (by decide +kernel)
set_option maxRecDepth 100000 in
theorem wd_167 : Cond.fieldLink "CapitalCase" 134 "CapitalCase$Script" "houses" "I" ∈ xTB := xw 167 (by decide +kernel) (by decide +kernel)
set_option maxRecDepth 100000 in
theorem wd_168 : Cond.fieldLink "CapitalCase$TwoDays" 46 "CapitalCase$Script" "verses" "I" ∈ xTB := xw 168 (by decide +kernel) (by decide +kernel)
set_option maxRecDepth 100000 in
theorem wd_169 : Cond.fieldLink "CapitalCase$Script" 48 "CapitalCase$Script" "verses" "I" ∈ xTB := xw 169 (by decide +kernel) (by decide +kernel)
set_option maxRecDepth 100000 in
theorem wd_170 : Cond.fieldLink "CapitalCase$Planner" 53 "CapitalCase$Script" "verses" "I" ∈ xTB := xw 170 (by decide +kernel) (by decide +kernel)
set_option maxRecDepth 100000 in
theorem wd_171 : Cond.fieldLink "CapitalCase$Press" 33 "CapitalCase$Script" "verses" "I" ∈ xTB := xw 171 (by decide +kernel) (by decide +kernel)
set_option maxRecDepth 100000 in
theorem wd_174 : Cond.fieldLink "CapitalCase" 141 "CapitalCase$Script" "verses" "I" ∈ xTB := xw 174 (by decide +kernel) (by decide +kernel)
set_option maxRecDepth 100000 in
theorem wd_175 : Cond.fieldLink "CapitalCase$Script" 51 "CapitalCase$Script" "spoils" "I" ∈ xTB := xw 175 (by decide +kernel) (by decide +kernel)
set_option maxRecDepth 100000 in
theorem wd_178 : Cond.fieldLink "CapitalCase$Script" 54 "CapitalCase$Script" "thieves" "I" ∈ xTB := xw 178 (by decide +kernel) (by decide +kernel)
set_option maxRecDepth 100000 in
theorem wd_179 : Cond.fieldLink "CapitalCase$Press" 91 "CapitalCase$Script" "thieves" "I" ∈ xTB := xw 179 (by decide +kernel) (by decide +kernel)
set_option maxRecDepth 100000 in
theorem wd_181 : Cond.fieldLink "CapitalCase$Script" 57 "CapitalCase$Script" "seed" "I" ∈ xTB := xw 181 (by decide +kernel) (by decide +kernel)
set_option maxRecDepth 100000 in
theorem wd_183 : Cond.fieldLink "CapitalCase" 249 "CapitalCase$Script" "seed" "I" ∈ xTB := xw 183 (by decide +kernel) (by decide +kernel)
set_option maxRecDepth 100000 in
theorem wd_184 : Cond.fieldLink "CapitalCase$Script" 13 "CapitalCase$Script" "pieces" "[I" ∈ xTB := xw 184 (by decide +kernel) (by decide +kernel)
set_option maxRecDepth 100000 in
theorem wd_185 : Cond.fieldLink "CapitalCase$Town" 27 "CapitalCase$Script" "pieces" "[I" ∈ xTB := xw 185 (by decide +kernel) (by decide +kernel)
set_option maxRecDepth 100000 in
theorem wd_187 : Cond.fieldLink "CapitalCase$Script" 17 "CapitalCase$Script" "value" "[I" ∈ xTB := xw 187 (by decide +kernel) (by decide +kernel)
set_option maxRecDepth 100000 in
theorem wd_191 : Cond.fieldLink "CapitalCase$Script" 20 "CapitalCase$Script" "due" "[I" ∈ xTB := xw 191 (by decide +kernel) (by decide +kernel)
set_option maxRecDepth 100000 in
theorem wd_195 : Cond.fieldLink "CapitalCase$Script" 23 "CapitalCase$Script" "wide" "[I" ∈ xTB := xw 195 (by decide +kernel) (by decide +kernel)
set_option maxRecDepth 100000 in
theorem wd_202 : Cond.fieldLink "CapitalCase$Script" 26 "CapitalCase$Script" "wanted" "[I" ∈ xTB := xw 202 (by decide +kernel) (by decide +kernel)
set_option maxRecDepth 100000 in
theorem wd_207 : Cond.fieldLink "CapitalCase$Script" 29 "CapitalCase$Script" "needs" "[I" ∈ xTB := xw 207 (by decide +kernel) (by decide +kernel)
set_option maxRecDepth 100000 in
theorem wd_211 : Cond.fieldLink "CapitalCase$Script" 32 "CapitalCase$Script" "lawStart" "[I" ∈ xTB := xw 211 (by decide +kernel) (by decide +kernel)
set_option maxRecDepth 100000 in
theorem wd_214 : Cond.fieldLink "CapitalCase$Script" 35 "CapitalCase$Script" "step" "[I" ∈ xTB := xw 214 (by decide +kernel) (by decide +kernel)
set_option maxRecDepth 100000 in
theorem wd_216 : Cond.fieldLink "CapitalCase$Script" 38 "CapitalCase$Script" "operand" "[I" ∈ xTB := xw 216 (by decide +kernel) (by decide +kernel)
set_option maxRecDepth 100000 in
theorem wd_218 : Cond.fieldLink "CapitalCase$Script" 66 "CapitalCase$Script" "steps" "I" ∈ xTB := xw 218 (by decide +kernel) (by decide +kernel)
set_option maxRecDepth 100000 in
theorem wd_252 : Cond.arrayClass .byte ∈ xTB := xw 252 (by decide +kernel) (by decide +kernel)
set_option maxRecDepth 100000 in
theorem wd_253 : Cond.arrayClass .int ∈ xTB := xw 253 (by decide +kernel) (by decide +kernel)
set_option maxRecDepth 100000 in
theorem wd_254 : Cond.classLink "CapitalCase" 27 "CapitalCase$Parser" ∈ xTB := xw 254 (by decide +kernel) (by decide +kernel)
set_option maxRecDepth 100000 in
theorem wd_255 : Cond.instantiable "CapitalCase$Parser" 10 ∈ xTB := xw 255 (by decide +kernel) (by decide +kernel)
set_option maxRecDepth 100000 in
theorem wd_256 : Cond.methodLink "CapitalCase" 29 ⟨"CapitalCase$Parser", "<init>", "([B)V"⟩ ∈ xTB := xw 256 (by decide +kernel) (by decide +kernel)
set_option maxRecDepth 100000 in
theorem wd_257 : Cond.instanceMethod ⟨"CapitalCase$Parser", "<init>", "([B)V"⟩ ∈ xTB := xw 257 (by decide +kernel) (by decide +kernel)
set_option maxRecDepth 100000 in
theorem wd_259 : Cond.methodLink "CapitalCase$Parser" 3 ⟨"java/lang/Object", "<init>", "()V"⟩ ∈ xTB := xw 259 (by decide +kernel) (by decide +kernel)
set_option maxRecDepth 100000 in
theorem wd_260 : Cond.classLink "CapitalCase$Parser" 9 "CapitalCase$Script" ∈ xTB := xw 260 (by decide +kernel) (by decide +kernel)
set_option maxRecDepth 100000 in
theorem wd_261 : Cond.methodLink "CapitalCase$Parser" 11 ⟨"CapitalCase$Script", "<init>", "()V"⟩ ∈ xTB := xw 261 (by decide +kernel) (by decide +kernel)
set_option maxRecDepth 100000 in
theorem wd_262 : Cond.classLink "CapitalCase$Parser" 18 "CapitalCase$Tokens" ∈ xTB := xw 262 (by decide +kernel) (by decide +kernel)
set_option maxRecDepth 100000 in
theorem wd_263 : Cond.instantiable "CapitalCase$Tokens" 3 ∈ xTB := xw 263 (by decide +kernel) (by decide +kernel)
set_option maxRecDepth 100000 in
theorem wd_265 : Cond.instanceMethod ⟨"CapitalCase$Tokens", "<init>", "()V"⟩ ∈ xTB := xw 265 (by decide +kernel) (by decide +kernel)
set_option maxRecDepth 100000 in
theorem wd_267 : Cond.methodLink "CapitalCase$Tokens" 3 ⟨"java/lang/Object", "<init>", "()V"⟩ ∈ xTB := xw 267 (by decide +kernel) (by decide +kernel)
set_option maxRecDepth 100000 in
theorem wd_268 : Cond.fieldLink "CapitalCase$Tokens" 9 "CapitalCase$Tokens" "kind" "[I" ∈ xTB := xw 268 (by decide +kernel) (by decide +kernel)
set_option maxRecDepth 100000 in
theorem wd_269 : Cond.fieldLink "CapitalCase$Parser" 80 "CapitalCase$Tokens" "kind" "[I" ∈ xTB := xw 269 (by decide +kernel) (by decide +kernel)
set_option maxRecDepth 100000 in
theorem wd_270 : Cond.fieldLink "CapitalCase$Tokens" 13 "CapitalCase$Tokens" "place" "[I" ∈ xTB := xw 270 (by decide +kernel) (by decide +kernel)
set_option maxRecDepth 100000 in
theorem wd_272 : Cond.fieldLink "CapitalCase$Tokens" 16 "CapitalCase$Tokens" "size" "[I" ∈ xTB := xw 272 (by decide +kernel) (by decide +kernel)
set_option maxRecDepth 100000 in
theorem wd_281 : Cond.fieldLink "CapitalCase$Parser" 12 "CapitalCase$Parser" "script" "LCapitalCase$Script;" ∈ xTB := xw 281 (by decide +kernel) (by decide +kernel)
set_option maxRecDepth 100000 in
theorem wd_282 : Cond.fieldLink "CapitalCase" 120 "CapitalCase$Parser" "script" "LCapitalCase$Script;" ∈ xTB := xw 282 (by decide +kernel) (by decide +kernel)
set_option maxRecDepth 100000 in
theorem wd_283 : Cond.fieldLink "CapitalCase$Parser" 21 "CapitalCase$Parser" "tokens" "LCapitalCase$Tokens;" ∈ xTB := xw 283 (by decide +kernel) (by decide +kernel)
set_option maxRecDepth 100000 in
theorem wd_284 : Cond.fieldLink "CapitalCase$Parser" 29 "CapitalCase$Parser" "text" "[B" ∈ xTB := xw 284 (by decide +kernel) (by decide +kernel)
set_option maxRecDepth 100000 in
theorem wd_285 : Cond.fieldLink "CapitalCase$Parser" 40 "CapitalCase$Parser" "at" "I" ∈ xTB := xw 285 (by decide +kernel) (by decide +kernel)
set_option maxRecDepth 100000 in
theorem wd_286 : Cond.fieldLink "CapitalCase$Parser" 44 "CapitalCase$Parser" "fault" "I" ∈ xTB := xw 286 (by decide +kernel) (by decide +kernel)
set_option maxRecDepth 100000 in
theorem wd_287 : Cond.fieldLink "CapitalCase$Parser" 77 "CapitalCase$Parser" "faultAt" "I" ∈ xTB := xw 287 (by decide +kernel) (by decide +kernel)
set_option maxRecDepth 100000 in
theorem wd_289 : Cond.fieldLink "CapitalCase$Parser" 47 "CapitalCase$Parser" "laterFault" "I" ∈ xTB := xw 289 (by decide +kernel) (by decide +kernel)
set_option maxRecDepth 100000 in
theorem wd_290 : Cond.fieldLink "CapitalCase$Parser" 74 "CapitalCase$Parser" "laterFaultAt" "I" ∈ xTB := xw 290 (by decide +kernel) (by decide +kernel)
set_option maxRecDepth 100000 in
theorem wd_291 : Cond.fieldLink "CapitalCase$Parser" 25 "CapitalCase$Parser" "names" "[I" ∈ xTB := xw 291 (by decide +kernel) (by decide +kernel)
set_option maxRecDepth 100000 in
theorem wd_292 : Cond.fieldLink "CapitalCase$Parser" 50 "CapitalCase$Parser" "nameCount" "I" ∈ xTB := xw 292 (by decide +kernel) (by decide +kernel)
set_option maxRecDepth 100000 in
theorem wd_314 : Cond.classLink "CapitalCase" 36 "CapitalCase$Town" ∈ xTB := xw 314 (by decide +kernel) (by decide +kernel)
set_option maxRecDepth 100000 in
theorem wd_315 : Cond.instantiable "CapitalCase$Town" 10 ∈ xTB := xw 315 (by decide +kernel) (by decide +kernel)
set_option maxRecDepth 100000 in
theorem wd_317 : Cond.instanceMethod ⟨"CapitalCase$Town", "<init>", "()V"⟩ ∈ xTB := xw 317 (by decide +kernel) (by decide +kernel)
set_option maxRecDepth 100000 in
theorem wd_319 : Cond.methodLink "CapitalCase$Town" 3 ⟨"java/lang/Object", "<init>", "()V"⟩ ∈ xTB := xw 319 (by decide +kernel) (by decide +kernel)
set_option maxRecDepth 100000 in
theorem wd_320 : Cond.fieldLink "CapitalCase$Town" 9 "CapitalCase$Town" "has" "[I" ∈ xTB := xw 320 (by decide +kernel) (by decide +kernel)
set_option maxRecDepth 100000 in
theorem wd_324 : Cond.fieldLink "CapitalCase" 151 "CapitalCase$Town" "has" "[I" ∈ xTB := xw 324 (by decide +kernel) (by decide +kernel)
set_option maxRecDepth 100000 in
theorem wd_325 : Cond.fieldLink "CapitalCase$Town" 15 "CapitalCase$Town" "used" "[I" ∈ xTB := xw 325 (by decide +kernel) (by decide +kernel)
set_option maxRecDepth 100000 in
theorem wd_328 : Cond.fieldLink "CapitalCase" 155 "CapitalCase$Town" "used" "[I" ∈ xTB := xw 328 (by decide +kernel) (by decide +kernel)
set_option maxRecDepth 100000 in
theorem wd_329 : Cond.fieldLink "CapitalCase$Town" 18 "CapitalCase$Town" "worn" "[I" ∈ xTB := xw 329 (by decide +kernel) (by decide +kernel)
set_option maxRecDepth 100000 in
theorem wd_334 : Cond.fieldLink "CapitalCase$Town" 21 "CapitalCase$Town" "lent" "[I" ∈ xTB := xw 334 (by decide +kernel) (by decide +kernel)
set_option maxRecDepth 100000 in
theorem wd_335 : Cond.fieldLink "CapitalCase" 246 "CapitalCase$Town" "lent" "[I" ∈ xTB := xw 335 (by decide +kernel) (by decide +kernel)
set_option maxRecDepth 100000 in
theorem wd_336 : Cond.fieldLink "CapitalCase$Town" 24 "CapitalCase$Town" "from" "[I" ∈ xTB := xw 336 (by decide +kernel) (by decide +kernel)
set_option maxRecDepth 100000 in
theorem wd_338 : Cond.fieldLink "CapitalCase$Town" 44 "CapitalCase$Town" "set" "I" ∈ xTB := xw 338 (by decide +kernel) (by decide +kernel)
set_option maxRecDepth 100000 in
theorem wd_339 : Cond.fieldLink "CapitalCase$Press" 38 "CapitalCase$Town" "set" "I" ∈ xTB := xw 339 (by decide +kernel) (by decide +kernel)
set_option maxRecDepth 100000 in
theorem wd_340 : Cond.fieldLink "CapitalCase" 196 "CapitalCase$Town" "set" "I" ∈ xTB := xw 340 (by decide +kernel) (by decide +kernel)
set_option maxRecDepth 100000 in
theorem wd_341 : Cond.fieldLink "CapitalCase$Town" 48 "CapitalCase$Town" "done" "I" ∈ xTB := xw 341 (by decide +kernel) (by decide +kernel)
set_option maxRecDepth 100000 in
theorem wd_342 : Cond.fieldLink "CapitalCase$Press" 41 "CapitalCase$Town" "done" "I" ∈ xTB := xw 342 (by decide +kernel) (by decide +kernel)
set_option maxRecDepth 100000 in
theorem wd_343 : Cond.fieldLink "CapitalCase" 199 "CapitalCase$Town" "done" "I" ∈ xTB := xw 343 (by decide +kernel) (by decide +kernel)
set_option maxRecDepth 100000 in
theorem wd_344 : Cond.fieldLink "CapitalCase$Press" 27 "CapitalCase$Town" "day" "I" ∈ xTB := xw 344 (by decide +kernel) (by decide +kernel)
set_option maxRecDepth 100000 in
theorem wd_345 : Cond.fieldLink "CapitalCase$TwoDays" 60 "CapitalCase$Town" "day" "I" ∈ xTB := xw 345 (by decide +kernel) (by decide +kernel)
set_option maxRecDepth 100000 in
theorem wd_346 : Cond.fieldLink "CapitalCase$Town" 51 "CapitalCase$Town" "day" "I" ∈ xTB := xw 346 (by decide +kernel) (by decide +kernel)
set_option maxRecDepth 100000 in
theorem wd_349 : Cond.fieldLink "CapitalCase" 190 "CapitalCase$Town" "day" "I" ∈ xTB := xw 349 (by decide +kernel) (by decide +kernel)
set_option maxRecDepth 100000 in
theorem wd_350 : Cond.fieldLink "CapitalCase$Town" 54 "CapitalCase$Town" "paid" "I" ∈ xTB := xw 350 (by decide +kernel) (by decide +kernel)
set_option maxRecDepth 100000 in
theorem wd_351 : Cond.fieldLink "CapitalCase$Press" 50 "CapitalCase$Town" "paid" "I" ∈ xTB := xw 351 (by decide +kernel) (by decide +kernel)
set_option maxRecDepth 100000 in
theorem wd_352 : Cond.fieldLink "CapitalCase" 304 "CapitalCase$Town" "paid" "I" ∈ xTB := xw 352 (by decide +kernel) (by decide +kernel)
set_option maxRecDepth 100000 in
theorem wd_353 : Cond.fieldLink "CapitalCase$Town" 57 "CapitalCase$Town" "gone" "I" ∈ xTB := xw 353 (by decide +kernel) (by decide +kernel)
set_option maxRecDepth 100000 in
theorem wd_354 : Cond.fieldLink "CapitalCase" 326 "CapitalCase$Town" "gone" "I" ∈ xTB := xw 354 (by decide +kernel) (by decide +kernel)
set_option maxRecDepth 100000 in
theorem wd_376 : Cond.classLink "CapitalCase" 46 "CapitalCase$History" ∈ xTB := xw 376 (by decide +kernel) (by decide +kernel)
set_option maxRecDepth 100000 in
theorem wd_377 : Cond.instantiable "CapitalCase$History" 3 ∈ xTB := xw 377 (by decide +kernel) (by decide +kernel)
set_option maxRecDepth 100000 in
theorem wd_379 : Cond.instanceMethod ⟨"CapitalCase$History", "<init>", "()V"⟩ ∈ xTB := xw 379 (by decide +kernel) (by decide +kernel)
set_option maxRecDepth 100000 in
theorem wd_381 : Cond.methodLink "CapitalCase$History" 1 ⟨"java/lang/Object", "<init>", "()V"⟩ ∈ xTB := xw 381 (by decide +kernel) (by decide +kernel)
set_option maxRecDepth 100000 in
theorem wd_382 : Cond.classLink "CapitalCase$History" 9 "CapitalCase$Town" ∈ xTB := xw 382 (by decide +kernel) (by decide +kernel)
set_option maxRecDepth 100000 in
theorem wd_384 : Cond.fieldLink "CapitalCase$History" 11 "CapitalCase$History" "rows" "[LCapitalCase$Town;" ∈ xTB := xw 384 (by decide +kernel) (by decide +kernel)
set_option maxRecDepth 100000 in
theorem wd_385 : Cond.fieldLink "CapitalCase$History" 15 "CapitalCase$History" "next" "I" ∈ xTB := xw 385 (by decide +kernel) (by decide +kernel)
set_option maxRecDepth 100000 in
theorem wd_386 : Cond.fieldLink "CapitalCase$History" 24 "CapitalCase$History" "count" "I" ∈ xTB := xw 386 (by decide +kernel) (by decide +kernel)
set_option maxRecDepth 100000 in
theorem wd_387 : Cond.fieldLink "CapitalCase" 130 "CapitalCase$History" "count" "I" ∈ xTB := xw 387 (by decide +kernel) (by decide +kernel)
set_option maxRecDepth 100000 in
theorem wd_395 : Cond.classLink "CapitalCase" 61 "CapitalCase$Prints" ∈ xTB := xw 395 (by decide +kernel) (by decide +kernel)
set_option maxRecDepth 100000 in
theorem wd_396 : Cond.instantiable "CapitalCase$Prints" 4 ∈ xTB := xw 396 (by decide +kernel) (by decide +kernel)
set_option maxRecDepth 100000 in
theorem wd_398 : Cond.instanceMethod ⟨"CapitalCase$Prints", "<init>", "()V"⟩ ∈ xTB := xw 398 (by decide +kernel) (by decide +kernel)
set_option maxRecDepth 100000 in
theorem wd_400 : Cond.methodLink "CapitalCase$Prints" 3 ⟨"java/lang/Object", "<init>", "()V"⟩ ∈ xTB := xw 400 (by decide +kernel) (by decide +kernel)
set_option maxRecDepth 100000 in
theorem wd_401 : Cond.fieldLink "CapitalCase$Prints" 11 "CapitalCase$Prints" "letters" "[I" ∈ xTB := xw 401 (by decide +kernel) (by decide +kernel)
set_option maxRecDepth 100000 in
theorem wd_402 : Cond.fieldLink "CapitalCase$Prints" 15 "CapitalCase$Prints" "wears" "[I" ∈ xTB := xw 402 (by decide +kernel) (by decide +kernel)
set_option maxRecDepth 100000 in
theorem wd_403 : Cond.fieldLink "CapitalCase$Prints" 18 "CapitalCase$Prints" "sos" "[Z" ∈ xTB := xw 403 (by decide +kernel) (by decide +kernel)
set_option maxRecDepth 100000 in
theorem wd_404 : Cond.fieldLink "CapitalCase$Prints" 22 "CapitalCase$Prints" "count" "I" ∈ xTB := xw 404 (by decide +kernel) (by decide +kernel)
set_option maxRecDepth 100000 in
theorem wd_405 : Cond.fieldLink "CapitalCase" 133 "CapitalCase$Prints" "count" "I" ∈ xTB := xw 405 (by decide +kernel) (by decide +kernel)
set_option maxRecDepth 100000 in
theorem wd_415 : Cond.arrayClass .boolean ∈ xTB := xw 415 (by decide +kernel) (by decide +kernel)
set_option maxRecDepth 100000 in
theorem wd_416 : Cond.classLink "CapitalCase" 68 "CapitalCase$Judge" ∈ xTB := xw 416 (by decide +kernel) (by decide +kernel)
set_option maxRecDepth 100000 in
theorem wd_417 : Cond.instantiable "CapitalCase$Judge" 3 ∈ xTB := xw 417 (by decide +kernel) (by decide +kernel)
set_option maxRecDepth 100000 in
theorem wd_418 : Cond.methodLink "CapitalCase" 70 ⟨"CapitalCase$Judge", "<init>", "(LCapitalCase$Script;)V"⟩ ∈ xTB := xw 418 (by decide +kernel) (by decide +kernel)
set_option maxRecDepth 100000 in
theorem wd_419 : Cond.instanceMethod ⟨"CapitalCase$Judge", "<init>", "(LCapitalCase$Script;)V"⟩ ∈ xTB := xw 419 (by decide +kernel) (by decide +kernel)
set_option maxRecDepth 100000 in
theorem wd_421 : Cond.methodLink "CapitalCase$Judge" 3 ⟨"java/lang/Object", "<init>", "()V"⟩ ∈ xTB := xw 421 (by decide +kernel) (by decide +kernel)
set_option maxRecDepth 100000 in
theorem wd_422 : Cond.fieldLink "CapitalCase$Judge" 18 "CapitalCase$Judge" "script" "LCapitalCase$Script;" ∈ xTB := xw 422 (by decide +kernel) (by decide +kernel)
set_option maxRecDepth 100000 in
theorem wd_423 : Cond.fieldLink "CapitalCase$Judge" 11 "CapitalCase$Judge" "vars" "[I" ∈ xTB := xw 423 (by decide +kernel) (by decide +kernel)
set_option maxRecDepth 100000 in
theorem wd_424 : Cond.fieldLink "CapitalCase$Judge" 15 "CapitalCase$Judge" "stack" "[I" ∈ xTB := xw 424 (by decide +kernel) (by decide +kernel)
set_option maxRecDepth 100000 in
theorem wd_432 : Cond.classLink "CapitalCase" 77 "CapitalCase$Press" ∈ xTB := xw 432 (by decide +kernel) (by decide +kernel)
set_option maxRecDepth 100000 in
theorem wd_433 : Cond.instantiable "CapitalCase$Press" 2 ∈ xTB := xw 433 (by decide +kernel) (by decide +kernel)
set_option maxRecDepth 100000 in
theorem wd_434 : Cond.methodLink "CapitalCase" 79 ⟨"CapitalCase$Press", "<init>", "(LCapitalCase$Script;LCapitalCase$Judge;)V"⟩ ∈ xTB := xw 434 (by decide +kernel) (by decide +kernel)
set_option maxRecDepth 100000 in
theorem wd_435 : Cond.instanceMethod ⟨"CapitalCase$Press", "<init>", "(LCapitalCase$Script;LCapitalCase$Judge;)V"⟩ ∈ xTB := xw 435 (by decide +kernel) (by decide +kernel)
set_option maxRecDepth 100000 in
theorem wd_437 : Cond.methodLink "CapitalCase$Press" 3 ⟨"java/lang/Object", "<init>", "()V"⟩ ∈ xTB := xw 437 (by decide +kernel) (by decide +kernel)
set_option maxRecDepth 100000 in
theorem wd_438 : Cond.fieldLink "CapitalCase$Press" 9 "CapitalCase$Press" "script" "LCapitalCase$Script;" ∈ xTB := xw 438 (by decide +kernel) (by decide +kernel)
set_option maxRecDepth 100000 in
theorem wd_439 : Cond.fieldLink "CapitalCase$Press" 15 "CapitalCase$Press" "judge" "LCapitalCase$Judge;" ∈ xTB := xw 439 (by decide +kernel) (by decide +kernel)
set_option maxRecDepth 100000 in
theorem wd_445 : Cond.classLink "CapitalCase" 86 "CapitalCase$Planner" ∈ xTB := xw 445 (by decide +kernel) (by decide +kernel)
set_option maxRecDepth 100000 in
theorem wd_446 : Cond.instantiable "CapitalCase$Planner" 12 ∈ xTB := xw 446 (by decide +kernel) (by decide +kernel)
set_option maxRecDepth 100000 in
theorem wd_447 : Cond.methodLink "CapitalCase" 88 ⟨"CapitalCase$Planner", "<init>", "(LCapitalCase$Script;LCapitalCase$Judge;)V"⟩ ∈ xTB := xw 447 (by decide +kernel) (by decide +kernel)
set_option maxRecDepth 100000 in
theorem wd_448 : Cond.instanceMethod ⟨"CapitalCase$Planner", "<init>", "(LCapitalCase$Script;LCapitalCase$Judge;)V"⟩ ∈ xTB := xw 448 (by decide +kernel) (by decide +kernel)
set_option maxRecDepth 100000 in
theorem wd_450 : Cond.methodLink "CapitalCase$Planner" 3 ⟨"java/lang/Object", "<init>", "()V"⟩ ∈ xTB := xw 450 (by decide +kernel) (by decide +kernel)
set_option maxRecDepth 100000 in
theorem wd_451 : Cond.fieldLink "CapitalCase$Planner" 30 "CapitalCase$Planner" "script" "LCapitalCase$Script;" ∈ xTB := xw 451 (by decide +kernel) (by decide +kernel)
set_option maxRecDepth 100000 in
theorem wd_452 : Cond.fieldLink "CapitalCase$Planner" 34 "CapitalCase$Planner" "judge" "LCapitalCase$Judge;" ∈ xTB := xw 452 (by decide +kernel) (by decide +kernel)
set_option maxRecDepth 100000 in
theorem wd_453 : Cond.fieldLink "CapitalCase$Planner" 9 "CapitalCase$Planner" "free" "[I" ∈ xTB := xw 453 (by decide +kernel) (by decide +kernel)
set_option maxRecDepth 100000 in
theorem wd_454 : Cond.fieldLink "CapitalCase$Planner" 15 "CapitalCase$Planner" "picks" "[I" ∈ xTB := xw 454 (by decide +kernel) (by decide +kernel)
set_option maxRecDepth 100000 in
theorem wd_457 : Cond.fieldLink "CapitalCase$Planner" 18 "CapitalCase$Planner" "pays" "[I" ∈ xTB := xw 457 (by decide +kernel) (by decide +kernel)
set_option maxRecDepth 100000 in
theorem wd_458 : Cond.fieldLink "CapitalCase$TwoDays" 81 "CapitalCase$Planner" "pays" "[I" ∈ xTB := xw 458 (by decide +kernel) (by decide +kernel)
set_option maxRecDepth 100000 in
theorem wd_461 : Cond.fieldLink "CapitalCase$Planner" 42 "CapitalCase$Planner" "most" "I" ∈ xTB := xw 461 (by decide +kernel) (by decide +kernel)
set_option maxRecDepth 100000 in
theorem wd_462 : Cond.fieldLink "CapitalCase$TwoDays" 102 "CapitalCase$Planner" "most" "I" ∈ xTB := xw 462 (by decide +kernel) (by decide +kernel)
set_option maxRecDepth 100000 in
theorem wd_463 : Cond.fieldLink "CapitalCase" 269 "CapitalCase$Planner" "most" "I" ∈ xTB := xw 463 (by decide +kernel) (by decide +kernel)
set_option maxRecDepth 100000 in
theorem wd_464 : Cond.fieldLink "CapitalCase$Planner" 45 "CapitalCase$Planner" "mask" "I" ∈ xTB := xw 464 (by decide +kernel) (by decide +kernel)
set_option maxRecDepth 100000 in
theorem wd_465 : Cond.fieldLink "CapitalCase" 272 "CapitalCase$Planner" "mask" "I" ∈ xTB := xw 465 (by decide +kernel) (by decide +kernel)
set_option maxRecDepth 100000 in
theorem wd_466 : Cond.fieldLink "CapitalCase$Planner" 38 "CapitalCase$Planner" "looked" "I" ∈ xTB := xw 466 (by decide +kernel) (by decide +kernel)
set_option maxRecDepth 100000 in
theorem wd_467 : Cond.fieldLink "CapitalCase$Planner" 21 "CapitalCase$Planner" "givers" "[I" ∈ xTB := xw 467 (by decide +kernel) (by decide +kernel)
set_option maxRecDepth 100000 in
theorem wd_468 : Cond.fieldLink "CapitalCase$Planner" 24 "CapitalCase$Planner" "ranks" "[I" ∈ xTB := xw 468 (by decide +kernel) (by decide +kernel)
set_option maxRecDepth 100000 in
theorem wd_469 : Cond.fieldLink "CapitalCase$Planner" 27 "CapitalCase$Planner" "giverCount" "[I" ∈ xTB := xw 469 (by decide +kernel) (by decide +kernel)
set_option maxRecDepth 100000 in
theorem wd_495 : Cond.classLink "CapitalCase" 93 "CapitalCase$TwoDays" ∈ xTB := xw 495 (by decide +kernel) (by decide +kernel)
set_option maxRecDepth 100000 in
theorem wd_496 : Cond.instantiable "CapitalCase$TwoDays" 9 ∈ xTB := xw 496 (by decide +kernel) (by decide +kernel)
set_option maxRecDepth 100000 in
theorem wd_497 : Cond.methodLink "CapitalCase" 95 ⟨"CapitalCase$TwoDays", "<init>", "(LCapitalCase$Script;LCapitalCase$Judge;LCapitalCase$Press;LCapitalCase$Planner;)V"⟩ ∈ xTB := xw 497 (by decide +kernel) (by decide +kernel)
set_option maxRecDepth 100000 in
theorem wd_498 : Cond.instanceMethod ⟨"CapitalCase$TwoDays", "<init>", "(LCapitalCase$Script;LCapitalCase$Judge;LCapitalCase$Press;LCapitalCase$Planner;)V"⟩ ∈ xTB := xw 498 (by decide +kernel) (by decide +kernel)
set_option maxRecDepth 100000 in
theorem wd_500 : Cond.methodLink "CapitalCase$TwoDays" 3 ⟨"java/lang/Object", "<init>", "()V"⟩ ∈ xTB := xw 500 (by decide +kernel) (by decide +kernel)
set_option maxRecDepth 100000 in
theorem wd_501 : Cond.classLink "CapitalCase$TwoDays" 9 "CapitalCase$Town" ∈ xTB := xw 501 (by decide +kernel) (by decide +kernel)
set_option maxRecDepth 100000 in
theorem wd_503 : Cond.classLink "CapitalCase$TwoDays" 38 "CapitalCase$Planner" ∈ xTB := xw 503 (by decide +kernel) (by decide +kernel)
set_option maxRecDepth 100000 in
theorem wd_504 : Cond.methodLink "CapitalCase$TwoDays" 40 ⟨"CapitalCase$Planner", "<init>", "(LCapitalCase$Script;LCapitalCase$Judge;)V"⟩ ∈ xTB := xw 504 (by decide +kernel) (by decide +kernel)
set_option maxRecDepth 100000 in
theorem wd_505 : Cond.fieldLink "CapitalCase$TwoDays" 22 "CapitalCase$TwoDays" "script" "LCapitalCase$Script;" ∈ xTB := xw 505 (by decide +kernel) (by decide +kernel)
set_option maxRecDepth 100000 in
theorem wd_506 : Cond.fieldLink "CapitalCase$TwoDays" 26 "CapitalCase$TwoDays" "judge" "LCapitalCase$Judge;" ∈ xTB := xw 506 (by decide +kernel) (by decide +kernel)
set_option maxRecDepth 100000 in
theorem wd_507 : Cond.fieldLink "CapitalCase$TwoDays" 30 "CapitalCase$TwoDays" "press" "LCapitalCase$Press;" ∈ xTB := xw 507 (by decide +kernel) (by decide +kernel)
set_option maxRecDepth 100000 in
theorem wd_508 : Cond.fieldLink "CapitalCase$TwoDays" 34 "CapitalCase$TwoDays" "first" "LCapitalCase$Planner;" ∈ xTB := xw 508 (by decide +kernel) (by decide +kernel)
set_option maxRecDepth 100000 in
theorem wd_509 : Cond.fieldLink "CapitalCase$TwoDays" 43 "CapitalCase$TwoDays" "second" "LCapitalCase$Planner;" ∈ xTB := xw 509 (by decide +kernel) (by decide +kernel)
set_option maxRecDepth 100000 in
theorem wd_510 : Cond.fieldLink "CapitalCase$TwoDays" 12 "CapitalCase$TwoDays" "after" "LCapitalCase$Town;" ∈ xTB := xw 510 (by decide +kernel) (by decide +kernel)
set_option maxRecDepth 100000 in
theorem wd_511 : Cond.fieldLink "CapitalCase$TwoDays" 75 "CapitalCase$TwoDays" "most" "I" ∈ xTB := xw 511 (by decide +kernel) (by decide +kernel)
set_option maxRecDepth 100000 in
theorem wd_512 : Cond.fieldLink "CapitalCase" 281 "CapitalCase$TwoDays" "most" "I" ∈ xTB := xw 512 (by decide +kernel) (by decide +kernel)
set_option maxRecDepth 100000 in
theorem wd_513 : Cond.fieldLink "CapitalCase$TwoDays" 78 "CapitalCase$TwoDays" "mask" "I" ∈ xTB := xw 513 (by decide +kernel) (by decide +kernel)
set_option maxRecDepth 100000 in
theorem wd_514 : Cond.fieldLink "CapitalCase" 282 "CapitalCase$TwoDays" "mask" "I" ∈ xTB := xw 514 (by decide +kernel) (by decide +kernel)
set_option maxRecDepth 100000 in
theorem wd_515 : Cond.fieldLink "CapitalCase$TwoDays" 18 "CapitalCase$TwoDays" "paysLater" "[I" ∈ xTB := xw 515 (by decide +kernel) (by decide +kernel)
set_option maxRecDepth 100000 in
theorem wd_535 : Cond.classLink "CapitalCase" 102 "CapitalCase$Trade" ∈ xTB := xw 535 (by decide +kernel) (by decide +kernel)
set_option maxRecDepth 100000 in
theorem wd_536 : Cond.instantiable "CapitalCase$Trade" 3 ∈ xTB := xw 536 (by decide +kernel) (by decide +kernel)
set_option maxRecDepth 100000 in
theorem wd_537 : Cond.methodLink "CapitalCase" 104 ⟨"CapitalCase$Trade", "<init>", "(LCapitalCase$Script;)V"⟩ ∈ xTB := xw 537 (by decide +kernel) (by decide +kernel)
set_option maxRecDepth 100000 in
theorem wd_538 : Cond.instanceMethod ⟨"CapitalCase$Trade", "<init>", "(LCapitalCase$Script;)V"⟩ ∈ xTB := xw 538 (by decide +kernel) (by decide +kernel)
set_option maxRecDepth 100000 in
theorem wd_540 : Cond.methodLink "CapitalCase$Trade" 3 ⟨"java/lang/Object", "<init>", "()V"⟩ ∈ xTB := xw 540 (by decide +kernel) (by decide +kernel)
set_option maxRecDepth 100000 in
theorem wd_541 : Cond.fieldLink "CapitalCase$Trade" 9 "CapitalCase$Trade" "script" "LCapitalCase$Script;" ∈ xTB := xw 541 (by decide +kernel) (by decide +kernel)
set_option maxRecDepth 100000 in
theorem wd_542 : Cond.fieldLink "CapitalCase$Trade" 41 "CapitalCase$Trade" "bargains" "I" ∈ xTB := xw 542 (by decide +kernel) (by decide +kernel)
set_option maxRecDepth 100000 in
theorem wd_543 : Cond.fieldLink "CapitalCase" 289 "CapitalCase$Trade" "bargains" "I" ∈ xTB := xw 543 (by decide +kernel) (by decide +kernel)
set_option maxRecDepth 100000 in
theorem wd_544 : Cond.fieldLink "CapitalCase$Trade" 44 "CapitalCase$Trade" "first" "I" ∈ xTB := xw 544 (by decide +kernel) (by decide +kernel)
set_option maxRecDepth 100000 in
theorem wd_545 : Cond.fieldLink "CapitalCase" 292 "CapitalCase$Trade" "first" "I" ∈ xTB := xw 545 (by decide +kernel) (by decide +kernel)
set_option maxRecDepth 100000 in
theorem wd_553 : Cond.fieldLink "CapitalCase" 9 "CapitalCase" "tape" "[B" ∈ xTB := xw 553 (by decide +kernel) (by decide +kernel)
set_option maxRecDepth 100000 in
theorem wd_554 : Cond.fieldLink "CapitalCase" 13 "CapitalCase" "tapeSize" "I" ∈ xTB := xw 554 (by decide +kernel) (by decide +kernel)
set_option maxRecDepth 100000 in
theorem wd_555 : Cond.fieldLink "CapitalCase" 17 "CapitalCase" "faultPlace" "I" ∈ xTB := xw 555 (by decide +kernel) (by decide +kernel)
set_option maxRecDepth 100000 in
theorem wd_556 : Cond.fieldLink "CapitalCase" 23 "CapitalCase" "script" "LCapitalCase$Script;" ∈ xTB := xw 556 (by decide +kernel) (by decide +kernel)
set_option maxRecDepth 100000 in
theorem wd_557 : Cond.fieldLink "CapitalCase" 32 "CapitalCase" "parser" "LCapitalCase$Parser;" ∈ xTB := xw 557 (by decide +kernel) (by decide +kernel)
set_option maxRecDepth 100000 in
theorem wd_558 : Cond.fieldLink "CapitalCase" 39 "CapitalCase" "town" "LCapitalCase$Town;" ∈ xTB := xw 558 (by decide +kernel) (by decide +kernel)
set_option maxRecDepth 100000 in
theorem wd_559 : Cond.fieldLink "CapitalCase" 43 "CapitalCase" "scratch" "LCapitalCase$Town;" ∈ xTB := xw 559 (by decide +kernel) (by decide +kernel)
set_option maxRecDepth 100000 in
theorem wd_560 : Cond.fieldLink "CapitalCase" 49 "CapitalCase" "history" "LCapitalCase$History;" ∈ xTB := xw 560 (by decide +kernel) (by decide +kernel)
set_option maxRecDepth 100000 in
theorem wd_561 : Cond.fieldLink "CapitalCase" 53 "CapitalCase" "slots" "[LCapitalCase$Town;" ∈ xTB := xw 561 (by decide +kernel) (by decide +kernel)
set_option maxRecDepth 100000 in
theorem wd_562 : Cond.fieldLink "CapitalCase" 57 "CapitalCase" "held" "[Z" ∈ xTB := xw 562 (by decide +kernel) (by decide +kernel)
set_option maxRecDepth 100000 in
theorem wd_563 : Cond.fieldLink "CapitalCase" 64 "CapitalCase" "prints" "LCapitalCase$Prints;" ∈ xTB := xw 563 (by decide +kernel) (by decide +kernel)
set_option maxRecDepth 100000 in
theorem wd_564 : Cond.fieldLink "CapitalCase" 73 "CapitalCase" "judge" "LCapitalCase$Judge;" ∈ xTB := xw 564 (by decide +kernel) (by decide +kernel)
set_option maxRecDepth 100000 in
theorem wd_565 : Cond.fieldLink "CapitalCase" 82 "CapitalCase" "press" "LCapitalCase$Press;" ∈ xTB := xw 565 (by decide +kernel) (by decide +kernel)
set_option maxRecDepth 100000 in
theorem wd_566 : Cond.fieldLink "CapitalCase" 89 "CapitalCase" "planner" "LCapitalCase$Planner;" ∈ xTB := xw 566 (by decide +kernel) (by decide +kernel)
set_option maxRecDepth 100000 in
theorem wd_567 : Cond.fieldLink "CapitalCase" 98 "CapitalCase" "pairOfDays" "LCapitalCase$TwoDays;" ∈ xTB := xw 567 (by decide +kernel) (by decide +kernel)
set_option maxRecDepth 100000 in
theorem wd_568 : Cond.fieldLink "CapitalCase" 105 "CapitalCase" "trade" "LCapitalCase$Trade;" ∈ xTB := xw 568 (by decide +kernel) (by decide +kernel)
set_option maxRecDepth 100000 in
theorem wd_602 : Cond.methodLink "CapitalCaseLaw" 13 ⟨"CapitalCase", "feed", "(IIIII)I"⟩ ∈ xTB := xw 602 (by decide +kernel) (by decide +kernel)
set_option maxRecDepth 100000 in
theorem wd_603 : Cond.instanceMethod ⟨"CapitalCase", "feed", "(IIIII)I"⟩ ∈ xTB := xw 603 (by decide +kernel) (by decide +kernel)
set_option maxRecDepth 100000 in
theorem wd_604 : Cond.selects "CapitalCase" ⟨"CapitalCase", "feed", "(IIIII)I"⟩ ⟨"CapitalCase", "feed", "(IIIII)I"⟩ ∈ xTB := xw 604 (by decide +kernel) (by decide +kernel)
set_option maxRecDepth 100000 in
theorem wd_606 : Cond.methodLink "CapitalCase" 109 ⟨"CapitalCase", "append", "(I)V"⟩ ∈ xTB := xw 606 (by decide +kernel) (by decide +kernel)
set_option maxRecDepth 100000 in
theorem wd_608 : Cond.instanceMethod ⟨"CapitalCase", "append", "(I)V"⟩ ∈ xTB := xw 608 (by decide +kernel) (by decide +kernel)
set_option maxRecDepth 100000 in
theorem wd_610 : Cond.methodLink "CapitalCaseLaw" 18 ⟨"CapitalCase", "back", "(I)I"⟩ ∈ xTB := xw 610 (by decide +kernel) (by decide +kernel)
set_option maxRecDepth 100000 in
theorem wd_611 : Cond.instanceMethod ⟨"CapitalCase", "back", "(I)I"⟩ ∈ xTB := xw 611 (by decide +kernel) (by decide +kernel)
set_option maxRecDepth 100000 in
theorem wd_612 : Cond.selects "CapitalCase" ⟨"CapitalCase", "back", "(I)I"⟩ ⟨"CapitalCase", "back", "(I)I"⟩ ∈ xTB := xw 612 (by decide +kernel) (by decide +kernel)
set_option maxRecDepth 100000 in
theorem wd_614 : Cond.methodLink "CapitalCaseLaw" 23 ⟨"CapitalCase", "read", "()I"⟩ ∈ xTB := xw 614 (by decide +kernel) (by decide +kernel)
set_option maxRecDepth 100000 in
theorem wd_615 : Cond.instanceMethod ⟨"CapitalCase", "read", "()I"⟩ ∈ xTB := xw 615 (by decide +kernel) (by decide +kernel)
set_option maxRecDepth 100000 in
theorem wd_616 : Cond.selects "CapitalCase" ⟨"CapitalCase", "read", "()I"⟩ ⟨"CapitalCase", "read", "()I"⟩ ∈ xTB := xw 616 (by decide +kernel) (by decide +kernel)
set_option maxRecDepth 100000 in
theorem wd_618 : Cond.methodLink "CapitalCase" 113 ⟨"CapitalCase$Parser", "parse", "(I)I"⟩ ∈ xTB := xw 618 (by decide +kernel) (by decide +kernel)
set_option maxRecDepth 100000 in
theorem wd_619 : Cond.instanceMethod ⟨"CapitalCase$Parser", "parse", "(I)I"⟩ ∈ xTB := xw 619 (by decide +kernel) (by decide +kernel)
set_option maxRecDepth 100000 in
theorem wd_620 : Cond.selects "CapitalCase$Parser" ⟨"CapitalCase$Parser", "parse", "(I)I"⟩ ⟨"CapitalCase$Parser", "parse", "(I)I"⟩ ∈ xTB := xw 620 (by decide +kernel) (by decide +kernel)
set_option maxRecDepth 100000 in
theorem wd_622 : Cond.methodLink "CapitalCase$Parser" 33 ⟨"CapitalCase$Script", "wipe", "()V"⟩ ∈ xTB := xw 622 (by decide +kernel) (by decide +kernel)
set_option maxRecDepth 100000 in
theorem wd_623 : Cond.methodLink "CapitalCase$Parser" 36 ⟨"CapitalCase$Tokens", "scan", "([BI)V"⟩ ∈ xTB := xw 623 (by decide +kernel) (by decide +kernel)
set_option maxRecDepth 100000 in
theorem wd_624 : Cond.instanceMethod ⟨"CapitalCase$Tokens", "scan", "([BI)V"⟩ ∈ xTB := xw 624 (by decide +kernel) (by decide +kernel)
set_option maxRecDepth 100000 in
theorem wd_625 : Cond.selects "CapitalCase$Tokens" ⟨"CapitalCase$Tokens", "scan", "([BI)V"⟩ ⟨"CapitalCase$Tokens", "scan", "([BI)V"⟩ ∈ xTB := xw 625 (by decide +kernel) (by decide +kernel)
set_option maxRecDepth 100000 in
theorem wd_713 : Cond.static ⟨"java/lang/Math", "max", "(II)I"⟩ ∈ xTB := xw 713 (by decide +kernel) (by decide +kernel)
set_option maxRecDepth 100000 in
theorem wd_716 : Cond.static ⟨"java/lang/Math", "min", "(II)I"⟩ ∈ xTB := xw 716 (by decide +kernel) (by decide +kernel)
set_option maxRecDepth 100000 in
theorem wd_756 : Cond.methodLink "CapitalCase$Parser" 53 ⟨"CapitalCase$Parser", "next", "()I"⟩ ∈ xTB := xw 756 (by decide +kernel) (by decide +kernel)
set_option maxRecDepth 100000 in
theorem wd_758 : Cond.instanceMethod ⟨"CapitalCase$Parser", "next", "()I"⟩ ∈ xTB := xw 758 (by decide +kernel) (by decide +kernel)
set_option maxRecDepth 100000 in
theorem wd_825 : Cond.methodLink "CapitalCase" 121 ⟨"CapitalCase$Script", "become", "(LCapitalCase$Script;)V"⟩ ∈ xTB := xw 825 (by decide +kernel) (by decide +kernel)
set_option maxRecDepth 100000 in
theorem wd_826 : Cond.instanceMethod ⟨"CapitalCase$Script", "become", "(LCapitalCase$Script;)V"⟩ ∈ xTB := xw 826 (by decide +kernel) (by decide +kernel)
set_option maxRecDepth 100000 in
theorem wd_827 : Cond.selects "CapitalCase$Script" ⟨"CapitalCase$Script", "become", "(LCapitalCase$Script;)V"⟩ ⟨"CapitalCase$Script", "become", "(LCapitalCase$Script;)V"⟩ ∈ xTB := xw 827 (by decide +kernel) (by decide +kernel)
set_option maxRecDepth 100000 in
theorem wd_829 : Cond.methodLink "CapitalCase$Script" 79 ⟨"java/lang/System", "arraycopy", "(Ljava/lang/Object;ILjava/lang/Object;II)V"⟩ ∈ xTB := xw 829 (by decide +kernel) (by decide +kernel)
set_option maxRecDepth 100000 in
theorem wd_830 : Cond.static ⟨"java/lang/System", "arraycopy", "(Ljava/lang/Object;ILjava/lang/Object;II)V"⟩ ∈ xTB := xw 830 (by decide +kernel) (by decide +kernel)
set_option maxRecDepth 100000 in
theorem wd_831 : Cond.native ⟨"java/lang/System", "arraycopy", "(Ljava/lang/Object;ILjava/lang/Object;II)V"⟩ ∈ xTB := xw 831 (by decide +kernel) (by decide +kernel)
set_option maxRecDepth 100000 in
theorem wd_832 : Cond.methodLink "CapitalCase" 124 ⟨"CapitalCase", "beginAnew", "()V"⟩ ∈ xTB := xw 832 (by decide +kernel) (by decide +kernel)
set_option maxRecDepth 100000 in
theorem wd_834 : Cond.instanceMethod ⟨"CapitalCase", "beginAnew", "()V"⟩ ∈ xTB := xw 834 (by decide +kernel) (by decide +kernel)
set_option maxRecDepth 100000 in
theorem wd_836 : Cond.methodLink "CapitalCase" 127 ⟨"CapitalCase$Town", "begin", "(LCapitalCase$Script;)V"⟩ ∈ xTB := xw 836 (by decide +kernel) (by decide +kernel)
set_option maxRecDepth 100000 in
theorem wd_837 : Cond.instanceMethod ⟨"CapitalCase$Town", "begin", "(LCapitalCase$Script;)V"⟩ ∈ xTB := xw 837 (by decide +kernel) (by decide +kernel)
set_option maxRecDepth 100000 in
theorem wd_838 : Cond.selects "CapitalCase$Town" ⟨"CapitalCase$Town", "begin", "(LCapitalCase$Script;)V"⟩ ⟨"CapitalCase$Town", "begin", "(LCapitalCase$Script;)V"⟩ ∈ xTB := xw 838 (by decide +kernel) (by decide +kernel)
set_option maxRecDepth 100000 in
theorem wd_840 : Cond.methodLink "CapitalCase$Town" 32 ⟨"java/lang/System", "arraycopy", "(Ljava/lang/Object;ILjava/lang/Object;II)V"⟩ ∈ xTB := xw 840 (by decide +kernel) (by decide +kernel)
set_option maxRecDepth 100000 in
theorem wd_841 : Cond.methodLink "CapitalCase$Town" 38 ⟨"java/util/Arrays", "fill", "([II)V"⟩ ∈ xTB := xw 841 (by decide +kernel) (by decide +kernel)
set_option maxRecDepth 100000 in
theorem wd_842 : Cond.methodLink "CapitalCaseLaw" 28 ⟨"CapitalCase", "place", "()I"⟩ ∈ xTB := xw 842 (by decide +kernel) (by decide +kernel)
set_option maxRecDepth 100000 in
theorem wd_843 : Cond.instanceMethod ⟨"CapitalCase", "place", "()I"⟩ ∈ xTB := xw 843 (by decide +kernel) (by decide +kernel)
set_option maxRecDepth 100000 in
theorem wd_844 : Cond.selects "CapitalCase" ⟨"CapitalCase", "place", "()I"⟩ ⟨"CapitalCase", "place", "()I"⟩ ∈ xTB := xw 844 (by decide +kernel) (by decide +kernel)
set_option maxRecDepth 100000 in
theorem wd_846 : Cond.methodLink "CapitalCaseLaw" 32 ⟨"CapitalCase", "house", "(III)I"⟩ ∈ xTB := xw 846 (by decide +kernel) (by decide +kernel)
set_option maxRecDepth 100000 in
theorem wd_847 : Cond.instanceMethod ⟨"CapitalCase", "house", "(III)I"⟩ ∈ xTB := xw 847 (by decide +kernel) (by decide +kernel)
set_option maxRecDepth 100000 in
theorem wd_848 : Cond.selects "CapitalCase" ⟨"CapitalCase", "house", "(III)I"⟩ ⟨"CapitalCase", "house", "(III)I"⟩ ∈ xTB := xw 848 (by decide +kernel) (by decide +kernel)
set_option maxRecDepth 100000 in
theorem wd_850 : Cond.methodLink "CapitalCase" 147 ⟨"CapitalCase", "isCell", "(II)Z"⟩ ∈ xTB := xw 850 (by decide +kernel) (by decide +kernel)
set_option maxRecDepth 100000 in
theorem wd_852 : Cond.instanceMethod ⟨"CapitalCase", "isCell", "(II)Z"⟩ ∈ xTB := xw 852 (by decide +kernel) (by decide +kernel)
set_option maxRecDepth 100000 in
theorem wd_854 : Cond.methodLink "CapitalCase" 137 ⟨"CapitalCase", "isHouse", "(I)Z"⟩ ∈ xTB := xw 854 (by decide +kernel) (by decide +kernel)
set_option maxRecDepth 100000 in
theorem wd_856 : Cond.instanceMethod ⟨"CapitalCase", "isHouse", "(I)Z"⟩ ∈ xTB := xw 856 (by decide +kernel) (by decide +kernel)
set_option maxRecDepth 100000 in
theorem wd_859 : Cond.instanceMethod ⟨"CapitalCase$Town", "free", "(I)I"⟩ ∈ xTB := xw 859 (by decide +kernel) (by decide +kernel)
set_option maxRecDepth 100000 in
theorem wd_860 : Cond.selects "CapitalCase$Town" ⟨"CapitalCase$Town", "free", "(I)I"⟩ ⟨"CapitalCase$Town", "free", "(I)I"⟩ ∈ xTB := xw 860 (by decide +kernel) (by decide +kernel)
set_option maxRecDepth 100000 in
theorem wd_862 : Cond.methodLink "CapitalCase$Town" 60 ⟨"java/lang/Math", "max", "(II)I"⟩ ∈ xTB := xw 862 (by decide +kernel) (by decide +kernel)
set_option maxRecDepth 100000 in
theorem wd_890 : Cond.methodLink "CapitalCaseLaw" 37 ⟨"CapitalCase", "verse", "(II)I"⟩ ∈ xTB := xw 890 (by decide +kernel) (by decide +kernel)
set_option maxRecDepth 100000 in
theorem wd_891 : Cond.instanceMethod ⟨"CapitalCase", "verse", "(II)I"⟩ ∈ xTB := xw 891 (by decide +kernel) (by decide +kernel)
set_option maxRecDepth 100000 in
theorem wd_892 : Cond.selects "CapitalCase" ⟨"CapitalCase", "verse", "(II)I"⟩ ⟨"CapitalCase", "verse", "(II)I"⟩ ∈ xTB := xw 892 (by decide +kernel) (by decide +kernel)
set_option maxRecDepth 100000 in
theorem wd_894 : Cond.methodLink "CapitalCase" 175 ⟨"CapitalCase", "isVerse", "(I)Z"⟩ ∈ xTB := xw 894 (by decide +kernel) (by decide +kernel)
set_option maxRecDepth 100000 in
theorem wd_896 : Cond.instanceMethod ⟨"CapitalCase", "isVerse", "(I)Z"⟩ ∈ xTB := xw 896 (by decide +kernel) (by decide +kernel)
set_option maxRecDepth 100000 in
theorem wd_910 : Cond.methodLink "CapitalCaseLaw" 42 ⟨"CapitalCase", "wants", "(II)I"⟩ ∈ xTB := xw 910 (by decide +kernel) (by decide +kernel)
set_option maxRecDepth 100000 in
theorem wd_911 : Cond.instanceMethod ⟨"CapitalCase", "wants", "(II)I"⟩ ∈ xTB := xw 911 (by decide +kernel) (by decide +kernel)
set_option maxRecDepth 100000 in
theorem wd_912 : Cond.selects "CapitalCase" ⟨"CapitalCase", "wants", "(II)I"⟩ ⟨"CapitalCase", "wants", "(II)I"⟩ ∈ xTB := xw 912 (by decide +kernel) (by decide +kernel)
set_option maxRecDepth 100000 in
theorem wd_914 : Cond.methodLink "CapitalCaseLaw" 46 ⟨"CapitalCase", "tells", "(IIII)I"⟩ ∈ xTB := xw 914 (by decide +kernel) (by decide +kernel)
set_option maxRecDepth 100000 in
theorem wd_915 : Cond.instanceMethod ⟨"CapitalCase", "tells", "(IIII)I"⟩ ∈ xTB := xw 915 (by decide +kernel) (by decide +kernel)
set_option maxRecDepth 100000 in
theorem wd_916 : Cond.selects "CapitalCase" ⟨"CapitalCase", "tells", "(IIII)I"⟩ ⟨"CapitalCase", "tells", "(IIII)I"⟩ ∈ xTB := xw 916 (by decide +kernel) (by decide +kernel)
set_option maxRecDepth 100000 in
theorem wd_918 : Cond.constant "CapitalCase" 205 (-1000000000) ∈ xTB := xw 918 (by decide +kernel) (by decide +kernel)
set_option maxRecDepth 100000 in
theorem wd_927 : Cond.methodLink "CapitalCaseLaw" 51 ⟨"CapitalCase", "set", "(I)Z"⟩ ∈ xTB := xw 927 (by decide +kernel) (by decide +kernel)
set_option maxRecDepth 100000 in
theorem wd_928 : Cond.instanceMethod ⟨"CapitalCase", "set", "(I)Z"⟩ ∈ xTB := xw 928 (by decide +kernel) (by decide +kernel)
set_option maxRecDepth 100000 in
theorem wd_929 : Cond.selects "CapitalCase" ⟨"CapitalCase", "set", "(I)Z"⟩ ⟨"CapitalCase", "set", "(I)Z"⟩ ∈ xTB := xw 929 (by decide +kernel) (by decide +kernel)
set_option maxRecDepth 100000 in
theorem wd_935 : Cond.methodLink "CapitalCase" 144 ⟨"CapitalCase$Town", "open", "(I)I"⟩ ∈ xTB := xw 935 (by decide +kernel) (by decide +kernel)
set_option maxRecDepth 100000 in
theorem wd_936 : Cond.instanceMethod ⟨"CapitalCase$Town", "open", "(I)I"⟩ ∈ xTB := xw 936 (by decide +kernel) (by decide +kernel)
set_option maxRecDepth 100000 in
theorem wd_937 : Cond.selects "CapitalCase$Town" ⟨"CapitalCase$Town", "open", "(I)I"⟩ ⟨"CapitalCase$Town", "open", "(I)I"⟩ ∈ xTB := xw 937 (by decide +kernel) (by decide +kernel)
set_option maxRecDepth 100000 in
theorem wd_944 : Cond.instanceMethod ⟨"CapitalCase$Planner", "prepare", "(LCapitalCase$Town;I)V"⟩ ∈ xTB := xw 944 (by decide +kernel) (by decide +kernel)
set_option maxRecDepth 100000 in
theorem wd_945 : Cond.selects "CapitalCase$Planner" ⟨"CapitalCase$Planner", "prepare", "(LCapitalCase$Town;I)V"⟩ ⟨"CapitalCase$Planner", "prepare", "(LCapitalCase$Town;I)V"⟩ ∈ xTB := xw 945 (by decide +kernel) (by decide +kernel)
set_option maxRecDepth 100000 in
theorem wd_947 : Cond.methodLink "CapitalCase$Planner" 48 ⟨"CapitalCase$Town", "free", "(I)I"⟩ ∈ xTB := xw 947 (by decide +kernel) (by decide +kernel)
set_option maxRecDepth 100000 in
theorem wd_967 : Cond.methodLink "CapitalCase" 220 ⟨"CapitalCase$History", "keep", "(LCapitalCase$Town;)V"⟩ ∈ xTB := xw 967 (by decide +kernel) (by decide +kernel)
set_option maxRecDepth 100000 in
theorem wd_968 : Cond.instanceMethod ⟨"CapitalCase$History", "keep", "(LCapitalCase$Town;)V"⟩ ∈ xTB := xw 968 (by decide +kernel) (by decide +kernel)
set_option maxRecDepth 100000 in
theorem wd_969 : Cond.selects "CapitalCase$History" ⟨"CapitalCase$History", "keep", "(LCapitalCase$Town;)V"⟩ ⟨"CapitalCase$History", "keep", "(LCapitalCase$Town;)V"⟩ ∈ xTB := xw 969 (by decide +kernel) (by decide +kernel)
set_option maxRecDepth 100000 in
theorem wd_972 : Cond.methodLink "CapitalCase$History" 20 ⟨"CapitalCase$Town", "become", "(LCapitalCase$Town;)V"⟩ ∈ xTB := xw 972 (by decide +kernel) (by decide +kernel)
set_option maxRecDepth 100000 in
theorem wd_973 : Cond.instanceMethod ⟨"CapitalCase$Town", "become", "(LCapitalCase$Town;)V"⟩ ∈ xTB := xw 973 (by decide +kernel) (by decide +kernel)
set_option maxRecDepth 100000 in
theorem wd_974 : Cond.selects "CapitalCase$Town" ⟨"CapitalCase$Town", "become", "(LCapitalCase$Town;)V"⟩ ⟨"CapitalCase$Town", "become", "(LCapitalCase$Town;)V"⟩ ∈ xTB := xw 974 (by decide +kernel) (by decide +kernel)
set_option maxRecDepth 100000 in
theorem wd_976 : Cond.methodLink "CapitalCase$History" 27 ⟨"java/lang/Math", "min", "(II)I"⟩ ∈ xTB := xw 976 (by decide +kernel) (by decide +kernel)
set_option maxRecDepth 100000 in
theorem wd_981 : Cond.methodLink "CapitalCaseLaw" 56 ⟨"CapitalCase", "clear", "(I)Z"⟩ ∈ xTB := xw 981 (by decide +kernel) (by decide +kernel)
set_option maxRecDepth 100000 in
theorem wd_982 : Cond.instanceMethod ⟨"CapitalCase", "clear", "(I)Z"⟩ ∈ xTB := xw 982 (by decide +kernel) (by decide +kernel)
set_option maxRecDepth 100000 in
theorem wd_983 : Cond.selects "CapitalCase" ⟨"CapitalCase", "clear", "(I)Z"⟩ ⟨"CapitalCase", "clear", "(I)Z"⟩ ∈ xTB := xw 983 (by decide +kernel) (by decide +kernel)
set_option maxRecDepth 100000 in
theorem wd_989 : Cond.methodLink "CapitalCaseLaw" 60 ⟨"CapitalCase", "lend", "(III)Z"⟩ ∈ xTB := xw 989 (by decide +kernel) (by decide +kernel)
set_option maxRecDepth 100000 in
theorem wd_990 : Cond.instanceMethod ⟨"CapitalCase", "lend", "(III)Z"⟩ ∈ xTB := xw 990 (by decide +kernel) (by decide +kernel)
set_option maxRecDepth 100000 in
theorem wd_991 : Cond.selects "CapitalCase" ⟨"CapitalCase", "lend", "(III)Z"⟩ ⟨"CapitalCase", "lend", "(III)Z"⟩ ∈ xTB := xw 991 (by decide +kernel) (by decide +kernel)
set_option maxRecDepth 100000 in
theorem wd_997 : Cond.methodLink "CapitalCaseLaw" 65 ⟨"CapitalCase", "giveBack", "(III)Z"⟩ ∈ xTB := xw 997 (by decide +kernel) (by decide +kernel)
set_option maxRecDepth 100000 in
theorem wd_998 : Cond.instanceMethod ⟨"CapitalCase", "giveBack", "(III)Z"⟩ ∈ xTB := xw 998 (by decide +kernel) (by decide +kernel)
set_option maxRecDepth 100000 in
theorem wd_999 : Cond.selects "CapitalCase" ⟨"CapitalCase", "giveBack", "(III)Z"⟩ ⟨"CapitalCase", "giveBack", "(III)Z"⟩ ∈ xTB := xw 999 (by decide +kernel) (by decide +kernel)
set_option maxRecDepth 100000 in
theorem wd_1001 : Cond.methodLink "CapitalCaseLaw" 69 ⟨"CapitalCase", "days", "(I)I"⟩ ∈ xTB := xw 1001 (by decide +kernel) (by decide +kernel)
set_option maxRecDepth 100000 in
theorem wd_1002 : Cond.instanceMethod ⟨"CapitalCase", "days", "(I)I"⟩ ∈ xTB := xw 1002 (by decide +kernel) (by decide +kernel)
set_option maxRecDepth 100000 in
theorem wd_1003 : Cond.selects "CapitalCase" ⟨"CapitalCase", "days", "(I)I"⟩ ⟨"CapitalCase", "days", "(I)I"⟩ ∈ xTB := xw 1003 (by decide +kernel) (by decide +kernel)
set_option maxRecDepth 100000 in
theorem wd_1005 : Cond.methodLink "CapitalCase" 252 ⟨"CapitalCase$Press", "passDays", "(LCapitalCase$Town;II)V"⟩ ∈ xTB := xw 1005 (by decide +kernel) (by decide +kernel)
set_option maxRecDepth 100000 in
theorem wd_1006 : Cond.instanceMethod ⟨"CapitalCase$Press", "passDays", "(LCapitalCase$Town;II)V"⟩ ∈ xTB := xw 1006 (by decide +kernel) (by decide +kernel)
set_option maxRecDepth 100000 in
theorem wd_1007 : Cond.selects "CapitalCase$Press" ⟨"CapitalCase$Press", "passDays", "(LCapitalCase$Town;II)V"⟩ ⟨"CapitalCase$Press", "passDays", "(LCapitalCase$Town;II)V"⟩ ∈ xTB := xw 1007 (by decide +kernel) (by decide +kernel)
set_option maxRecDepth 100000 in
theorem wd_1009 : Cond.methodLink "CapitalCase$Press" 19 ⟨"CapitalCase$Press", "work", "(LCapitalCase$Town;)V"⟩ ∈ xTB := xw 1009 (by decide +kernel) (by decide +kernel)
set_option maxRecDepth 100000 in
theorem wd_1010 : Cond.instanceMethod ⟨"CapitalCase$Press", "work", "(LCapitalCase$Town;)V"⟩ ∈ xTB := xw 1010 (by decide +kernel) (by decide +kernel)
set_option maxRecDepth 100000 in
theorem wd_1011 : Cond.selects "CapitalCase$Press" ⟨"CapitalCase$Press", "work", "(LCapitalCase$Town;)V"⟩ ⟨"CapitalCase$Press", "work", "(LCapitalCase$Town;)V"⟩ ∈ xTB := xw 1011 (by decide +kernel) (by decide +kernel)
set_option maxRecDepth 100000 in
theorem wd_1013 : Cond.methodLink "CapitalCase$Press" 53 ⟨"CapitalCase$Press", "owed", "(LCapitalCase$Town;)I"⟩ ∈ xTB := xw 1013 (by decide +kernel) (by decide +kernel)
set_option maxRecDepth 100000 in
theorem wd_1014 : Cond.instanceMethod ⟨"CapitalCase$Press", "owed", "(LCapitalCase$Town;)I"⟩ ∈ xTB := xw 1014 (by decide +kernel) (by decide +kernel)
set_option maxRecDepth 100000 in
theorem wd_1015 : Cond.selects "CapitalCase$Press" ⟨"CapitalCase$Press", "owed", "(LCapitalCase$Town;)I"⟩ ⟨"CapitalCase$Press", "owed", "(LCapitalCase$Town;)I"⟩ ∈ xTB := xw 1015 (by decide +kernel) (by decide +kernel)
set_option maxRecDepth 100000 in
theorem wd_1028 : Cond.methodLink "CapitalCase$Press" 23 ⟨"CapitalCase$Press", "steal", "(LCapitalCase$Town;I)V"⟩ ∈ xTB := xw 1028 (by decide +kernel) (by decide +kernel)
set_option maxRecDepth 100000 in
theorem wd_1030 : Cond.instanceMethod ⟨"CapitalCase$Press", "steal", "(LCapitalCase$Town;I)V"⟩ ∈ xTB := xw 1030 (by decide +kernel) (by decide +kernel)
set_option maxRecDepth 100000 in
theorem wd_1032 : Cond.methodLink "CapitalCase$Press" 94 ⟨"CapitalCase$Press", "thievesCome", "(II)Z"⟩ ∈ xTB := xw 1032 (by decide +kernel) (by decide +kernel)
set_option maxRecDepth 100000 in
theorem wd_1033 : Cond.instanceMethod ⟨"CapitalCase$Press", "thievesCome", "(II)Z"⟩ ∈ xTB := xw 1033 (by decide +kernel) (by decide +kernel)
set_option maxRecDepth 100000 in
theorem wd_1034 : Cond.selects "CapitalCase$Press" ⟨"CapitalCase$Press", "thievesCome", "(II)Z"⟩ ⟨"CapitalCase$Press", "thievesCome", "(II)Z"⟩ ∈ xTB := xw 1034 (by decide +kernel) (by decide +kernel)
set_option maxRecDepth 100000 in
theorem wd_1036 : Cond.methodLink "CapitalCase$Press" 87 ⟨"CapitalCase$Press", "lot", "(III)I"⟩ ∈ xTB := xw 1036 (by decide +kernel) (by decide +kernel)
set_option maxRecDepth 100000 in
theorem wd_1037 : Cond.static ⟨"CapitalCase$Press", "lot", "(III)I"⟩ ∈ xTB := xw 1037 (by decide +kernel) (by decide +kernel)
set_option maxRecDepth 100000 in
theorem wd_1039 : Cond.methodLink "CapitalCase$Press" 101 ⟨"CapitalCase$Press", "mix", "(II)I"⟩ ∈ xTB := xw 1039 (by decide +kernel) (by decide +kernel)
set_option maxRecDepth 100000 in
theorem wd_1040 : Cond.static ⟨"CapitalCase$Press", "mix", "(II)I"⟩ ∈ xTB := xw 1040 (by decide +kernel) (by decide +kernel)
set_option maxRecDepth 100000 in
theorem wd_1042 : Cond.constant "CapitalCase$Press" 104 1103515245 ∈ xTB := xw 1042 (by decide +kernel) (by decide +kernel)
set_option maxRecDepth 100000 in
theorem wd_1043 : Cond.methodLink "CapitalCaseLaw" 73 ⟨"CapitalCase", "undo", "()Z"⟩ ∈ xTB := xw 1043 (by decide +kernel) (by decide +kernel)
set_option maxRecDepth 100000 in
theorem wd_1044 : Cond.instanceMethod ⟨"CapitalCase", "undo", "()Z"⟩ ∈ xTB := xw 1044 (by decide +kernel) (by decide +kernel)
set_option maxRecDepth 100000 in
theorem wd_1045 : Cond.selects "CapitalCase" ⟨"CapitalCase", "undo", "()Z"⟩ ⟨"CapitalCase", "undo", "()Z"⟩ ∈ xTB := xw 1045 (by decide +kernel) (by decide +kernel)
set_option maxRecDepth 100000 in
theorem wd_1047 : Cond.methodLink "CapitalCase" 256 ⟨"CapitalCase$History", "takeBack", "(LCapitalCase$Town;)Z"⟩ ∈ xTB := xw 1047 (by decide +kernel) (by decide +kernel)
set_option maxRecDepth 100000 in
theorem wd_1048 : Cond.instanceMethod ⟨"CapitalCase$History", "takeBack", "(LCapitalCase$Town;)Z"⟩ ∈ xTB := xw 1048 (by decide +kernel) (by decide +kernel)
set_option maxRecDepth 100000 in
theorem wd_1049 : Cond.selects "CapitalCase$History" ⟨"CapitalCase$History", "takeBack", "(LCapitalCase$Town;)Z"⟩ ⟨"CapitalCase$History", "takeBack", "(LCapitalCase$Town;)Z"⟩ ∈ xTB := xw 1049 (by decide +kernel) (by decide +kernel)
set_option maxRecDepth 100000 in
theorem wd_1051 : Cond.methodLink "CapitalCaseLaw" 78 ⟨"CapitalCase", "from", "(II)I"⟩ ∈ xTB := xw 1051 (by decide +kernel) (by decide +kernel)
set_option maxRecDepth 100000 in
theorem wd_1052 : Cond.instanceMethod ⟨"CapitalCase", "from", "(II)I"⟩ ∈ xTB := xw 1052 (by decide +kernel) (by decide +kernel)
set_option maxRecDepth 100000 in
theorem wd_1053 : Cond.selects "CapitalCase" ⟨"CapitalCase", "from", "(II)I"⟩ ⟨"CapitalCase", "from", "(II)I"⟩ ∈ xTB := xw 1053 (by decide +kernel) (by decide +kernel)
set_option maxRecDepth 100000 in
theorem wd_1055 : Cond.methodLink "CapitalCase" 260 ⟨"CapitalCase", "wants", "(II)I"⟩ ∈ xTB := xw 1055 (by decide +kernel) (by decide +kernel)
set_option maxRecDepth 100000 in
theorem wd_1056 : Cond.methodLink "CapitalCaseLaw" 82 ⟨"CapitalCase", "best", "(I)I"⟩ ∈ xTB := xw 1056 (by decide +kernel) (by decide +kernel)
set_option maxRecDepth 100000 in
theorem wd_1057 : Cond.instanceMethod ⟨"CapitalCase", "best", "(I)I"⟩ ∈ xTB := xw 1057 (by decide +kernel) (by decide +kernel)
set_option maxRecDepth 100000 in
theorem wd_1058 : Cond.selects "CapitalCase" ⟨"CapitalCase", "best", "(I)I"⟩ ⟨"CapitalCase", "best", "(I)I"⟩ ∈ xTB := xw 1058 (by decide +kernel) (by decide +kernel)
set_option maxRecDepth 100000 in
theorem wd_1060 : Cond.methodLink "CapitalCase" 266 ⟨"CapitalCase$Planner", "seek", "(LCapitalCase$Town;)V"⟩ ∈ xTB := xw 1060 (by decide +kernel) (by decide +kernel)
set_option maxRecDepth 100000 in
theorem wd_1061 : Cond.instanceMethod ⟨"CapitalCase$Planner", "seek", "(LCapitalCase$Town;)V"⟩ ∈ xTB := xw 1061 (by decide +kernel) (by decide +kernel)
set_option maxRecDepth 100000 in
theorem wd_1062 : Cond.selects "CapitalCase$Planner" ⟨"CapitalCase$Planner", "seek", "(LCapitalCase$Town;)V"⟩ ⟨"CapitalCase$Planner", "seek", "(LCapitalCase$Town;)V"⟩ ∈ xTB := xw 1062 (by decide +kernel) (by decide +kernel)
set_option maxRecDepth 100000 in
theorem wd_1064 : Cond.methodLink "CapitalCase$Planner" 100 ⟨"CapitalCase$Town", "open", "(I)I"⟩ ∈ xTB := xw 1064 (by decide +kernel) (by decide +kernel)
set_option maxRecDepth 100000 in
theorem wd_1065 : Cond.methodLink "CapitalCase$Planner" 103 ⟨"CapitalCase$Planner", "prepare", "(LCapitalCase$Town;I)V"⟩ ∈ xTB := xw 1065 (by decide +kernel) (by decide +kernel)
set_option maxRecDepth 100000 in
theorem wd_1066 : Cond.methodLink "CapitalCase$Planner" 107 ⟨"CapitalCase$Planner", "search", "()V"⟩ ∈ xTB := xw 1066 (by decide +kernel) (by decide +kernel)
set_option maxRecDepth 100000 in
theorem wd_1068 : Cond.instanceMethod ⟨"CapitalCase$Planner", "search", "()V"⟩ ∈ xTB := xw 1068 (by decide +kernel) (by decide +kernel)
set_option maxRecDepth 100000 in
theorem wd_1071 : Cond.methodLink "CapitalCase$Planner" 114 ⟨"CapitalCase$Planner", "keepIfMore", "(II)V"⟩ ∈ xTB := xw 1071 (by decide +kernel) (by decide +kernel)
set_option maxRecDepth 100000 in
theorem wd_1073 : Cond.instanceMethod ⟨"CapitalCase$Planner", "keepIfMore", "(II)V"⟩ ∈ xTB := xw 1073 (by decide +kernel) (by decide +kernel)
set_option maxRecDepth 100000 in
theorem wd_1078 : Cond.methodLink "CapitalCaseLaw" 86 ⟨"CapitalCase", "worth", "(II)I"⟩ ∈ xTB := xw 1078 (by decide +kernel) (by decide +kernel)
set_option maxRecDepth 100000 in
theorem wd_1079 : Cond.instanceMethod ⟨"CapitalCase", "worth", "(II)I"⟩ ∈ xTB := xw 1079 (by decide +kernel) (by decide +kernel)
set_option maxRecDepth 100000 in
theorem wd_1080 : Cond.selects "CapitalCase" ⟨"CapitalCase", "worth", "(II)I"⟩ ⟨"CapitalCase", "worth", "(II)I"⟩ ∈ xTB := xw 1080 (by decide +kernel) (by decide +kernel)
set_option maxRecDepth 100000 in
theorem wd_1082 : Cond.methodLink "CapitalCase" 275 ⟨"CapitalCase$Town", "become", "(LCapitalCase$Town;)V"⟩ ∈ xTB := xw 1082 (by decide +kernel) (by decide +kernel)
set_option maxRecDepth 100000 in
theorem wd_1083 : Cond.methodLink "CapitalCaseLaw" 90 ⟨"CapitalCase", "pillar", "(I)I"⟩ ∈ xTB := xw 1083 (by decide +kernel) (by decide +kernel)
set_option maxRecDepth 100000 in
theorem wd_1084 : Cond.instanceMethod ⟨"CapitalCase", "pillar", "(I)I"⟩ ∈ xTB := xw 1084 (by decide +kernel) (by decide +kernel)
set_option maxRecDepth 100000 in
theorem wd_1085 : Cond.selects "CapitalCase" ⟨"CapitalCase", "pillar", "(I)I"⟩ ⟨"CapitalCase", "pillar", "(I)I"⟩ ∈ xTB := xw 1085 (by decide +kernel) (by decide +kernel)
set_option maxRecDepth 100000 in
theorem wd_1091 : Cond.methodLink "CapitalCaseLaw" 94 ⟨"CapitalCase", "twoDays", "(I)I"⟩ ∈ xTB := xw 1091 (by decide +kernel) (by decide +kernel)
set_option maxRecDepth 100000 in
theorem wd_1092 : Cond.instanceMethod ⟨"CapitalCase", "twoDays", "(I)I"⟩ ∈ xTB := xw 1092 (by decide +kernel) (by decide +kernel)
set_option maxRecDepth 100000 in
theorem wd_1093 : Cond.selects "CapitalCase" ⟨"CapitalCase", "twoDays", "(I)I"⟩ ⟨"CapitalCase", "twoDays", "(I)I"⟩ ∈ xTB := xw 1093 (by decide +kernel) (by decide +kernel)
set_option maxRecDepth 100000 in
theorem wd_1095 : Cond.methodLink "CapitalCase" 280 ⟨"CapitalCase$TwoDays", "seek", "(LCapitalCase$Town;)V"⟩ ∈ xTB := xw 1095 (by decide +kernel) (by decide +kernel)
set_option maxRecDepth 100000 in
theorem wd_1096 : Cond.instanceMethod ⟨"CapitalCase$TwoDays", "seek", "(LCapitalCase$Town;)V"⟩ ∈ xTB := xw 1096 (by decide +kernel) (by decide +kernel)
set_option maxRecDepth 100000 in
theorem wd_1097 : Cond.selects "CapitalCase$TwoDays" ⟨"CapitalCase$TwoDays", "seek", "(LCapitalCase$Town;)V"⟩ ⟨"CapitalCase$TwoDays", "seek", "(LCapitalCase$Town;)V"⟩ ∈ xTB := xw 1097 (by decide +kernel) (by decide +kernel)
set_option maxRecDepth 100000 in
theorem wd_1099 : Cond.methodLink "CapitalCase$TwoDays" 52 ⟨"CapitalCase$Town", "open", "(I)I"⟩ ∈ xTB := xw 1099 (by decide +kernel) (by decide +kernel)
set_option maxRecDepth 100000 in
theorem wd_1100 : Cond.methodLink "CapitalCase$TwoDays" 56 ⟨"CapitalCase$Planner", "prepare", "(LCapitalCase$Town;I)V"⟩ ∈ xTB := xw 1100 (by decide +kernel) (by decide +kernel)
set_option maxRecDepth 100000 in
theorem wd_1102 : Cond.methodLink "CapitalCase$TwoDays" 69 ⟨"CapitalCase$Press", "owed", "(LCapitalCase$Town;)I"⟩ ∈ xTB := xw 1102 (by decide +kernel) (by decide +kernel)
set_option maxRecDepth 100000 in
theorem wd_1103 : Cond.methodLink "CapitalCase$TwoDays" 83 ⟨"CapitalCase$TwoDays", "total", "([II)I"⟩ ∈ xTB := xw 1103 (by decide +kernel) (by decide +kernel)
set_option maxRecDepth 100000 in
theorem wd_1105 : Cond.instanceMethod ⟨"CapitalCase$TwoDays", "total", "([II)I"⟩ ∈ xTB := xw 1105 (by decide +kernel) (by decide +kernel)
set_option maxRecDepth 100000 in
theorem wd_1107 : Cond.methodLink "CapitalCase$TwoDays" 87 ⟨"CapitalCase$TwoDays", "takeAll", "(I)Z"⟩ ∈ xTB := xw 1107 (by decide +kernel) (by decide +kernel)
set_option maxRecDepth 100000 in
theorem wd_1109 : Cond.instanceMethod ⟨"CapitalCase$TwoDays", "takeAll", "(I)Z"⟩ ∈ xTB := xw 1109 (by decide +kernel) (by decide +kernel)
set_option maxRecDepth 100000 in
theorem wd_1112 : Cond.methodLink "CapitalCase$TwoDays" 94 ⟨"CapitalCase$TwoDays", "giveUpAll", "(I)V"⟩ ∈ xTB := xw 1112 (by decide +kernel) (by decide +kernel)
set_option maxRecDepth 100000 in
theorem wd_1114 : Cond.instanceMethod ⟨"CapitalCase$TwoDays", "giveUpAll", "(I)V"⟩ ∈ xTB := xw 1114 (by decide +kernel) (by decide +kernel)
set_option maxRecDepth 100000 in
theorem wd_1117 : Cond.methodLink "CapitalCase$TwoDays" 91 ⟨"CapitalCase$TwoDays", "passFirst", "(LCapitalCase$Town;I)V"⟩ ∈ xTB := xw 1117 (by decide +kernel) (by decide +kernel)
set_option maxRecDepth 100000 in
theorem wd_1119 : Cond.instanceMethod ⟨"CapitalCase$TwoDays", "passFirst", "(LCapitalCase$Town;I)V"⟩ ∈ xTB := xw 1119 (by decide +kernel) (by decide +kernel)
set_option maxRecDepth 100000 in
theorem wd_1121 : Cond.methodLink "CapitalCase$TwoDays" 113 ⟨"CapitalCase$Town", "become", "(LCapitalCase$Town;)V"⟩ ∈ xTB := xw 1121 (by decide +kernel) (by decide +kernel)
set_option maxRecDepth 100000 in
theorem wd_1123 : Cond.methodLink "CapitalCase$TwoDays" 123 ⟨"CapitalCase$Press", "work", "(LCapitalCase$Town;)V"⟩ ∈ xTB := xw 1123 (by decide +kernel) (by decide +kernel)
set_option maxRecDepth 100000 in
theorem wd_1125 : Cond.methodLink "CapitalCase$TwoDays" 98 ⟨"CapitalCase$Planner", "seek", "(LCapitalCase$Town;)V"⟩ ∈ xTB := xw 1125 (by decide +kernel) (by decide +kernel)
set_option maxRecDepth 100000 in
theorem wd_1126 : Cond.methodLink "CapitalCaseLaw" 98 ⟨"CapitalCase", "loans", "(II)I"⟩ ∈ xTB := xw 1126 (by decide +kernel) (by decide +kernel)
set_option maxRecDepth 100000 in
theorem wd_1127 : Cond.instanceMethod ⟨"CapitalCase", "loans", "(II)I"⟩ ∈ xTB := xw 1127 (by decide +kernel) (by decide +kernel)
set_option maxRecDepth 100000 in
theorem wd_1128 : Cond.selects "CapitalCase" ⟨"CapitalCase", "loans", "(II)I"⟩ ⟨"CapitalCase", "loans", "(II)I"⟩ ∈ xTB := xw 1128 (by decide +kernel) (by decide +kernel)
set_option maxRecDepth 100000 in
theorem wd_1139 : Cond.methodLink "CapitalCaseLaw" 102 ⟨"CapitalCase", "bargains", "(I)I"⟩ ∈ xTB := xw 1139 (by decide +kernel) (by decide +kernel)
set_option maxRecDepth 100000 in
theorem wd_1140 : Cond.instanceMethod ⟨"CapitalCase", "bargains", "(I)I"⟩ ∈ xTB := xw 1140 (by decide +kernel) (by decide +kernel)
set_option maxRecDepth 100000 in
theorem wd_1141 : Cond.selects "CapitalCase" ⟨"CapitalCase", "bargains", "(I)I"⟩ ⟨"CapitalCase", "bargains", "(I)I"⟩ ∈ xTB := xw 1141 (by decide +kernel) (by decide +kernel)
set_option maxRecDepth 100000 in
theorem wd_1143 : Cond.methodLink "CapitalCase" 286 ⟨"CapitalCase$Trade", "seekBargains", "(LCapitalCase$Town;)V"⟩ ∈ xTB := xw 1143 (by decide +kernel) (by decide +kernel)
set_option maxRecDepth 100000 in
theorem wd_1144 : Cond.instanceMethod ⟨"CapitalCase$Trade", "seekBargains", "(LCapitalCase$Town;)V"⟩ ∈ xTB := xw 1144 (by decide +kernel) (by decide +kernel)
set_option maxRecDepth 100000 in
theorem wd_1145 : Cond.selects "CapitalCase$Trade" ⟨"CapitalCase$Trade", "seekBargains", "(LCapitalCase$Town;)V"⟩ ⟨"CapitalCase$Trade", "seekBargains", "(LCapitalCase$Town;)V"⟩ ∈ xTB := xw 1145 (by decide +kernel) (by decide +kernel)
set_option maxRecDepth 100000 in
theorem wd_1161 : Cond.methodLink "CapitalCaseLaw" 106 ⟨"CapitalCase", "strike", "(I)I"⟩ ∈ xTB := xw 1161 (by decide +kernel) (by decide +kernel)
set_option maxRecDepth 100000 in
theorem wd_1162 : Cond.instanceMethod ⟨"CapitalCase", "strike", "(I)I"⟩ ∈ xTB := xw 1162 (by decide +kernel) (by decide +kernel)
set_option maxRecDepth 100000 in
theorem wd_1163 : Cond.selects "CapitalCase" ⟨"CapitalCase", "strike", "(I)I"⟩ ⟨"CapitalCase", "strike", "(I)I"⟩ ∈ xTB := xw 1163 (by decide +kernel) (by decide +kernel)
set_option maxRecDepth 100000 in
theorem wd_1169 : Cond.methodLink "CapitalCaseLaw" 110 ⟨"CapitalCase", "clash", "(I)I"⟩ ∈ xTB := xw 1169 (by decide +kernel) (by decide +kernel)
set_option maxRecDepth 100000 in
theorem wd_1170 : Cond.instanceMethod ⟨"CapitalCase", "clash", "(I)I"⟩ ∈ xTB := xw 1170 (by decide +kernel) (by decide +kernel)
set_option maxRecDepth 100000 in
theorem wd_1171 : Cond.selects "CapitalCase" ⟨"CapitalCase", "clash", "(I)I"⟩ ⟨"CapitalCase", "clash", "(I)I"⟩ ∈ xTB := xw 1171 (by decide +kernel) (by decide +kernel)
set_option maxRecDepth 100000 in
theorem wd_1173 : Cond.methodLink "CapitalCaseLaw" 114 ⟨"CapitalCase", "late", "()I"⟩ ∈ xTB := xw 1173 (by decide +kernel) (by decide +kernel)
set_option maxRecDepth 100000 in
theorem wd_1174 : Cond.instanceMethod ⟨"CapitalCase", "late", "()I"⟩ ∈ xTB := xw 1174 (by decide +kernel) (by decide +kernel)
set_option maxRecDepth 100000 in
theorem wd_1175 : Cond.selects "CapitalCase" ⟨"CapitalCase", "late", "()I"⟩ ⟨"CapitalCase", "late", "()I"⟩ ∈ xTB := xw 1175 (by decide +kernel) (by decide +kernel)
set_option maxRecDepth 100000 in
theorem wd_1177 : Cond.methodLink "CapitalCaseLaw" 118 ⟨"CapitalCase", "wornOut", "(II)I"⟩ ∈ xTB := xw 1177 (by decide +kernel) (by decide +kernel)
set_option maxRecDepth 100000 in
theorem wd_1178 : Cond.instanceMethod ⟨"CapitalCase", "wornOut", "(II)I"⟩ ∈ xTB := xw 1178 (by decide +kernel) (by decide +kernel)
set_option maxRecDepth 100000 in
theorem wd_1179 : Cond.selects "CapitalCase" ⟨"CapitalCase", "wornOut", "(II)I"⟩ ⟨"CapitalCase", "wornOut", "(II)I"⟩ ∈ xTB := xw 1179 (by decide +kernel) (by decide +kernel)
set_option maxRecDepth 100000 in
theorem wd_1185 : Cond.methodLink "CapitalCaseLaw" 122 ⟨"CapitalCase", "then", "(IIII)I"⟩ ∈ xTB := xw 1185 (by decide +kernel) (by decide +kernel)
set_option maxRecDepth 100000 in
theorem wd_1186 : Cond.instanceMethod ⟨"CapitalCase", "then", "(IIII)I"⟩ ∈ xTB := xw 1186 (by decide +kernel) (by decide +kernel)
set_option maxRecDepth 100000 in
theorem wd_1187 : Cond.selects "CapitalCase" ⟨"CapitalCase", "then", "(IIII)I"⟩ ⟨"CapitalCase", "then", "(IIII)I"⟩ ∈ xTB := xw 1187 (by decide +kernel) (by decide +kernel)
set_option maxRecDepth 100000 in
theorem wd_1189 : Cond.methodLink "CapitalCaseLaw" 126 ⟨"CapitalCase", "paidIn", "(I)I"⟩ ∈ xTB := xw 1189 (by decide +kernel) (by decide +kernel)
set_option maxRecDepth 100000 in
theorem wd_1190 : Cond.instanceMethod ⟨"CapitalCase", "paidIn", "(I)I"⟩ ∈ xTB := xw 1190 (by decide +kernel) (by decide +kernel)
set_option maxRecDepth 100000 in
theorem wd_1191 : Cond.selects "CapitalCase" ⟨"CapitalCase", "paidIn", "(I)I"⟩ ⟨"CapitalCase", "paidIn", "(I)I"⟩ ∈ xTB := xw 1191 (by decide +kernel) (by decide +kernel)
set_option maxRecDepth 100000 in
theorem wd_1193 : Cond.methodLink "CapitalCaseLaw" 130 ⟨"CapitalCase", "year", "(IIII)I"⟩ ∈ xTB := xw 1193 (by decide +kernel) (by decide +kernel)
set_option maxRecDepth 100000 in
theorem wd_1194 : Cond.instanceMethod ⟨"CapitalCase", "year", "(IIII)I"⟩ ∈ xTB := xw 1194 (by decide +kernel) (by decide +kernel)
set_option maxRecDepth 100000 in
theorem wd_1195 : Cond.selects "CapitalCase" ⟨"CapitalCase", "year", "(IIII)I"⟩ ⟨"CapitalCase", "year", "(IIII)I"⟩ ∈ xTB := xw 1195 (by decide +kernel) (by decide +kernel)
set_option maxRecDepth 100000 in
theorem wd_1197 : Cond.methodLink "CapitalCaseLaw" 134 ⟨"CapitalCase", "tell", "(IIZ)I"⟩ ∈ xTB := xw 1197 (by decide +kernel) (by decide +kernel)
set_option maxRecDepth 100000 in
theorem wd_1198 : Cond.instanceMethod ⟨"CapitalCase", "tell", "(IIZ)I"⟩ ∈ xTB := xw 1198 (by decide +kernel) (by decide +kernel)
set_option maxRecDepth 100000 in
theorem wd_1199 : Cond.selects "CapitalCase" ⟨"CapitalCase", "tell", "(IIZ)I"⟩ ⟨"CapitalCase", "tell", "(IIZ)I"⟩ ∈ xTB := xw 1199 (by decide +kernel) (by decide +kernel)
set_option maxRecDepth 100000 in
theorem wd_1201 : Cond.methodLink "CapitalCase" 307 ⟨"CapitalCase$Prints", "note", "(IIZ)I"⟩ ∈ xTB := xw 1201 (by decide +kernel) (by decide +kernel)
set_option maxRecDepth 100000 in
theorem wd_1202 : Cond.instanceMethod ⟨"CapitalCase$Prints", "note", "(IIZ)I"⟩ ∈ xTB := xw 1202 (by decide +kernel) (by decide +kernel)
set_option maxRecDepth 100000 in
theorem wd_1203 : Cond.selects "CapitalCase$Prints" ⟨"CapitalCase$Prints", "note", "(IIZ)I"⟩ ⟨"CapitalCase$Prints", "note", "(IIZ)I"⟩ ∈ xTB := xw 1203 (by decide +kernel) (by decide +kernel)
set_option maxRecDepth 100000 in
theorem wd_1205 : Cond.methodLink "CapitalCaseLaw" 139 ⟨"CapitalCase", "forget", "()I"⟩ ∈ xTB := xw 1205 (by decide +kernel) (by decide +kernel)
set_option maxRecDepth 100000 in
theorem wd_1206 : Cond.instanceMethod ⟨"CapitalCase", "forget", "()I"⟩ ∈ xTB := xw 1206 (by decide +kernel) (by decide +kernel)
set_option maxRecDepth 100000 in
theorem wd_1207 : Cond.selects "CapitalCase" ⟨"CapitalCase", "forget", "()I"⟩ ⟨"CapitalCase", "forget", "()I"⟩ ∈ xTB := xw 1207 (by decide +kernel) (by decide +kernel)
set_option maxRecDepth 100000 in
theorem wd_1209 : Cond.methodLink "CapitalCaseLaw" 143 ⟨"CapitalCase", "whose", "(II)I"⟩ ∈ xTB := xw 1209 (by decide +kernel) (by decide +kernel)
set_option maxRecDepth 100000 in
theorem wd_1210 : Cond.instanceMethod ⟨"CapitalCase", "whose", "(II)I"⟩ ∈ xTB := xw 1210 (by decide +kernel) (by decide +kernel)
set_option maxRecDepth 100000 in
theorem wd_1211 : Cond.selects "CapitalCase" ⟨"CapitalCase", "whose", "(II)I"⟩ ⟨"CapitalCase", "whose", "(II)I"⟩ ∈ xTB := xw 1211 (by decide +kernel) (by decide +kernel)
set_option maxRecDepth 100000 in
theorem wd_1213 : Cond.methodLink "CapitalCase" 311 ⟨"CapitalCase$Prints", "left", "(LCapitalCase$Town;II)I"⟩ ∈ xTB := xw 1213 (by decide +kernel) (by decide +kernel)
set_option maxRecDepth 100000 in
theorem wd_1214 : Cond.instanceMethod ⟨"CapitalCase$Prints", "left", "(LCapitalCase$Town;II)I"⟩ ∈ xTB := xw 1214 (by decide +kernel) (by decide +kernel)
set_option maxRecDepth 100000 in
theorem wd_1215 : Cond.selects "CapitalCase$Prints" ⟨"CapitalCase$Prints", "left", "(LCapitalCase$Town;II)I"⟩ ⟨"CapitalCase$Prints", "left", "(LCapitalCase$Town;II)I"⟩ ∈ xTB := xw 1215 (by decide +kernel) (by decide +kernel)
set_option maxRecDepth 100000 in
theorem wd_1217 : Cond.methodLink "CapitalCase" 314 ⟨"java/lang/Integer", "bitCount", "(I)I"⟩ ∈ xTB := xw 1217 (by decide +kernel) (by decide +kernel)
set_option maxRecDepth 100000 in
theorem wd_1218 : Cond.static ⟨"java/lang/Integer", "bitCount", "(I)I"⟩ ∈ xTB := xw 1218 (by decide +kernel) (by decide +kernel)
set_option maxRecDepth 100000 in
theorem wd_1220 : Cond.constant "java/lang/Integer" 265 1431655765 ∈ xTB := xw 1220 (by decide +kernel) (by decide +kernel)
set_option maxRecDepth 100000 in
theorem wd_1221 : Cond.constant "java/lang/Integer" 266 858993459 ∈ xTB := xw 1221 (by decide +kernel) (by decide +kernel)
set_option maxRecDepth 100000 in
theorem wd_1222 : Cond.constant "java/lang/Integer" 267 252645135 ∈ xTB := xw 1222 (by decide +kernel) (by decide +kernel)
set_option maxRecDepth 100000 in
theorem wd_1223 : Cond.methodLink "CapitalCaseLaw" 147 ⟨"CapitalCase", "ask", "(II)I"⟩ ∈ xTB := xw 1223 (by decide +kernel) (by decide +kernel)
set_option maxRecDepth 100000 in
theorem wd_1224 : Cond.instanceMethod ⟨"CapitalCase", "ask", "(II)I"⟩ ∈ xTB := xw 1224 (by decide +kernel) (by decide +kernel)
set_option maxRecDepth 100000 in
theorem wd_1225 : Cond.selects "CapitalCase" ⟨"CapitalCase", "ask", "(II)I"⟩ ⟨"CapitalCase", "ask", "(II)I"⟩ ∈ xTB := xw 1225 (by decide +kernel) (by decide +kernel)
set_option maxRecDepth 100000 in
theorem wd_1227 : Cond.methodLink "CapitalCase" 319 ⟨"CapitalCase$Prints", "letterToAsk", "(LCapitalCase$Town;II)I"⟩ ∈ xTB := xw 1227 (by decide +kernel) (by decide +kernel)
set_option maxRecDepth 100000 in
theorem wd_1228 : Cond.instanceMethod ⟨"CapitalCase$Prints", "letterToAsk", "(LCapitalCase$Town;II)I"⟩ ∈ xTB := xw 1228 (by decide +kernel) (by decide +kernel)
set_option maxRecDepth 100000 in
theorem wd_1229 : Cond.selects "CapitalCase$Prints" ⟨"CapitalCase$Prints", "letterToAsk", "(LCapitalCase$Town;II)I"⟩ ⟨"CapitalCase$Prints", "letterToAsk", "(LCapitalCase$Town;II)I"⟩ ∈ xTB := xw 1229 (by decide +kernel) (by decide +kernel)
set_option maxRecDepth 100000 in
theorem wd_1233 : Cond.methodLink "CapitalCaseLaw" 151 ⟨"CapitalCase", "hold", "(I)Z"⟩ ∈ xTB := xw 1233 (by decide +kernel) (by decide +kernel)
set_option maxRecDepth 100000 in
theorem wd_1234 : Cond.instanceMethod ⟨"CapitalCase", "hold", "(I)Z"⟩ ∈ xTB := xw 1234 (by decide +kernel) (by decide +kernel)
set_option maxRecDepth 100000 in
theorem wd_1235 : Cond.selects "CapitalCase" ⟨"CapitalCase", "hold", "(I)Z"⟩ ⟨"CapitalCase", "hold", "(I)Z"⟩ ∈ xTB := xw 1235 (by decide +kernel) (by decide +kernel)
set_option maxRecDepth 100000 in
theorem wd_1237 : Cond.methodLink "CapitalCaseLaw" 155 ⟨"CapitalCase", "restore", "(I)Z"⟩ ∈ xTB := xw 1237 (by decide +kernel) (by decide +kernel)
set_option maxRecDepth 100000 in
theorem wd_1238 : Cond.instanceMethod ⟨"CapitalCase", "restore", "(I)Z"⟩ ∈ xTB := xw 1238 (by decide +kernel) (by decide +kernel)
set_option maxRecDepth 100000 in
theorem wd_1239 : Cond.selects "CapitalCase" ⟨"CapitalCase", "restore", "(I)Z"⟩ ⟨"CapitalCase", "restore", "(I)Z"⟩ ∈ xTB := xw 1239 (by decide +kernel) (by decide +kernel)
set_option maxRecDepth 100000 in
theorem wd_1241 : Cond.methodLink "CapitalCaseLaw" 159 ⟨"CapitalCase", "count", "(I)I"⟩ ∈ xTB := xw 1241 (by decide +kernel) (by decide +kernel)
set_option maxRecDepth 100000 in
theorem wd_1242 : Cond.instanceMethod ⟨"CapitalCase", "count", "(I)I"⟩ ∈ xTB := xw 1242 (by decide +kernel) (by decide +kernel)
set_option maxRecDepth 100000 in
theorem wd_1243 : Cond.selects "CapitalCase" ⟨"CapitalCase", "count", "(I)I"⟩ ⟨"CapitalCase", "count", "(I)I"⟩ ∈ xTB := xw 1243 (by decide +kernel) (by decide +kernel)
set_option maxRecDepth 100000 in
theorem wd_1245 : Cond.methodLink "CapitalCase" 322 ⟨"CapitalCase", "sum", "([I)I"⟩ ∈ xTB := xw 1245 (by decide +kernel) (by decide +kernel)
set_option maxRecDepth 100000 in
theorem wd_1246 : Cond.static ⟨"CapitalCase", "sum", "([I)I"⟩ ∈ xTB := xw 1246 (by decide +kernel) (by decide +kernel)
set_option maxRecDepth 100000 in
theorem wd_1248 : Cond.methodLink "CapitalCase" 329 ⟨"CapitalCase", "heldSlots", "()I"⟩ ∈ xTB := xw 1248 (by decide +kernel) (by decide +kernel)
set_option maxRecDepth 100000 in
theorem wd_1250 : Cond.instanceMethod ⟨"CapitalCase", "heldSlots", "()I"⟩ ∈ xTB := xw 1250 (by decide +kernel) (by decide +kernel)
set_option maxRecDepth 100000 in
theorem wd_1252 : Cond.methodLink "CapitalCase" 333 ⟨"CapitalCase$Press", "thievesCome", "(II)Z"⟩ ∈ xTB := xw 1252 (by decide +kernel) (by decide +kernel)
set_option maxRecDepth 100000 in
theorem wd_1253 : Cond.methodLink "CapitalCase" 336 ⟨"CapitalCase", "settable", "()I"⟩ ∈ xTB := xw 1253 (by decide +kernel) (by decide +kernel)
set_option maxRecDepth 100000 in
theorem wd_1255 : Cond.instanceMethod ⟨"CapitalCase", "settable", "()I"⟩ ∈ xTB := xw 1255 (by decide +kernel) (by decide +kernel)
set_option maxRecDepth 100000 in
theorem wd_1257 : Cond.classLink "CapitalCaseLaw" 10 "CapitalCaseModel" ∈ xTB := xw 1257 (by decide +kernel) (by decide +kernel)
set_option maxRecDepth 100000 in
theorem wd_1258 : Cond.instantiable "CapitalCaseModel" 70 ∈ xTB := xw 1258 (by decide +kernel) (by decide +kernel)
set_option maxRecDepth 100000 in
theorem wd_1259 : Cond.methodLink "CapitalCaseLaw" 12 ⟨"CapitalCaseModel", "<init>", "()V"⟩ ∈ xTB := xw 1259 (by decide +kernel) (by decide +kernel)
set_option maxRecDepth 100000 in
theorem wd_1260 : Cond.instanceMethod ⟨"CapitalCaseModel", "<init>", "()V"⟩ ∈ xTB := xw 1260 (by decide +kernel) (by decide +kernel)
set_option maxRecDepth 100000 in
theorem wd_1262 : Cond.methodLink "CapitalCaseModel" 7 ⟨"java/lang/Object", "<init>", "()V"⟩ ∈ xTB := xw 1262 (by decide +kernel) (by decide +kernel)
set_option maxRecDepth 100000 in
theorem wd_1263 : Cond.methodLink "CapitalCaseModel" 149 ⟨"CapitalCaseModel", "plain", "(I)V"⟩ ∈ xTB := xw 1263 (by decide +kernel) (by decide +kernel)
set_option maxRecDepth 100000 in
theorem wd_1265 : Cond.instanceMethod ⟨"CapitalCaseModel", "plain", "(I)V"⟩ ∈ xTB := xw 1265 (by decide +kernel) (by decide +kernel)
set_option maxRecDepth 100000 in
theorem wd_1267 : Cond.methodLink "CapitalCaseModel" 153 ⟨"CapitalCaseModel", "word", "(IIIIIII)J"⟩ ∈ xTB := xw 1267 (by decide +kernel) (by decide +kernel)
set_option maxRecDepth 100000 in
theorem wd_1268 : Cond.static ⟨"CapitalCaseModel", "word", "(IIIIIII)J"⟩ ∈ xTB := xw 1268 (by decide +kernel) (by decide +kernel)
set_option maxRecDepth 100000 in
theorem wd_1270 : Cond.methodLink "CapitalCaseModel" 174 ⟨"CapitalCaseModel", "appends", "(JI)J"⟩ ∈ xTB := xw 1270 (by decide +kernel) (by decide +kernel)
set_option maxRecDepth 100000 in
theorem wd_1271 : Cond.static ⟨"CapitalCaseModel", "appends", "(JI)J"⟩ ∈ xTB := xw 1271 (by decide +kernel) (by decide +kernel)
set_option maxRecDepth 100000 in
theorem wd_1273 : Cond.constantLong "CapitalCaseModel" 172 27 ∈ xTB := xw 1273 (by decide +kernel) (by decide +kernel)
set_option maxRecDepth 100000 in
theorem wd_1274 : Cond.methodLink "CapitalCaseModel" 157 ⟨"CapitalCaseModel", "begins", "()V"⟩ ∈ xTB := xw 1274 (by decide +kernel) (by decide +kernel)
set_option maxRecDepth 100000 in
theorem wd_1276 : Cond.instanceMethod ⟨"CapitalCaseModel", "begins", "()V"⟩ ∈ xTB := xw 1276 (by decide +kernel) (by decide +kernel)
set_option maxRecDepth 100000 in
theorem wd_1278 : Cond.methodLink "CapitalCaseModel" 160 ⟨"CapitalCaseModel", "keepsRow", "()V"⟩ ∈ xTB := xw 1278 (by decide +kernel) (by decide +kernel)
set_option maxRecDepth 100000 in
theorem wd_1280 : Cond.instanceMethod ⟨"CapitalCaseModel", "keepsRow", "()V"⟩ ∈ xTB := xw 1280 (by decide +kernel) (by decide +kernel)
set_option maxRecDepth 100000 in
theorem wd_1282 : Cond.fieldLink "CapitalCaseModel" 13 "CapitalCaseModel" "tape" "[B" ∈ xTB := xw 1282 (by decide +kernel) (by decide +kernel)
set_option maxRecDepth 100000 in
theorem wd_1283 : Cond.fieldLink "CapitalCaseModel" 163 "CapitalCaseModel" "taped" "I" ∈ xTB := xw 1283 (by decide +kernel) (by decide +kernel)
set_option maxRecDepth 100000 in
theorem wd_1284 : Cond.fieldLink "CapitalCaseModel" 17 "CapitalCaseModel" "text" "[B" ∈ xTB := xw 1284 (by decide +kernel) (by decide +kernel)
set_option maxRecDepth 100000 in
theorem wd_1285 : Cond.fieldLink "CapitalCaseModel" 169 "CapitalCaseModel" "size" "I" ∈ xTB := xw 1285 (by decide +kernel) (by decide +kernel)
set_option maxRecDepth 100000 in
theorem wd_1286 : Cond.fieldLink "CapitalCaseModel" 20 "CapitalCaseModel" "tKind" "[I" ∈ xTB := xw 1286 (by decide +kernel) (by decide +kernel)
set_option maxRecDepth 100000 in
theorem wd_1287 : Cond.fieldLink "CapitalCaseModel" 24 "CapitalCaseModel" "tPlace" "[I" ∈ xTB := xw 1287 (by decide +kernel) (by decide +kernel)
set_option maxRecDepth 100000 in
theorem wd_1288 : Cond.fieldLink "CapitalCaseModel" 27 "CapitalCaseModel" "tValue" "[I" ∈ xTB := xw 1288 (by decide +kernel) (by decide +kernel)
set_option maxRecDepth 100000 in
theorem wd_1289 : Cond.fieldLink "CapitalCaseModel" 30 "CapitalCaseModel" "tName" "[J" ∈ xTB := xw 1289 (by decide +kernel) (by decide +kernel)
set_option maxRecDepth 100000 in
theorem wd_1290 : Cond.fieldLink "CapitalCaseModel" 34 "CapitalCaseModel" "keys" "[J" ∈ xTB := xw 1290 (by decide +kernel) (by decide +kernel)
set_option maxRecDepth 100000 in
theorem wd_1291 : Cond.fieldLink "CapitalCaseModel" 178 "CapitalCaseModel" "tokens" "I" ∈ xTB := xw 1291 (by decide +kernel) (by decide +kernel)
set_option maxRecDepth 100000 in
theorem wd_1292 : Cond.fieldLink "CapitalCaseModel" 203 "CapitalCaseModel" "t" "I" ∈ xTB := xw 1292 (by decide +kernel) (by decide +kernel)
set_option maxRecDepth 100000 in
theorem wd_1293 : Cond.fieldLink "CapitalCaseModel" 227 "CapitalCaseModel" "open" "I" ∈ xTB := xw 1293 (by decide +kernel) (by decide +kernel)
set_option maxRecDepth 100000 in
theorem wd_1294 : Cond.fieldLink "CapitalCaseModel" 200 "CapitalCaseModel" "fault" "I" ∈ xTB := xw 1294 (by decide +kernel) (by decide +kernel)
set_option maxRecDepth 100000 in
theorem wd_1296 : Cond.fieldLink "CapitalCaseModel" 209 "CapitalCaseModel" "worst" "I" ∈ xTB := xw 1296 (by decide +kernel) (by decide +kernel)
set_option maxRecDepth 100000 in
theorem wd_1298 : Cond.fieldLink "CapitalCaseModel" 37 "CapitalCaseModel" "place" "I" ∈ xTB := xw 1298 (by decide +kernel) (by decide +kernel)
set_option maxRecDepth 100000 in
theorem wd_1299 : Cond.fieldLink "CapitalCaseModel" 230 "CapitalCaseModel" "live" "I" ∈ xTB := xw 1299 (by decide +kernel) (by decide +kernel)
set_option maxRecDepth 100000 in
theorem wd_1300 : Cond.fieldLink "CapitalCaseModel" 233 "CapitalCaseModel" "side" "I" ∈ xTB := xw 1300 (by decide +kernel) (by decide +kernel)
set_option maxRecDepth 100000 in
theorem wd_1301 : Cond.fieldLink "CapitalCaseModel" 236 "CapitalCaseModel" "names" "I" ∈ xTB := xw 1301 (by decide +kernel) (by decide +kernel)
set_option maxRecDepth 100000 in
theorem wd_1302 : Cond.fieldLink "CapitalCaseModel" 40 "CapitalCaseModel" "nameOf" "[J" ∈ xTB := xw 1302 (by decide +kernel) (by decide +kernel)
set_option maxRecDepth 100000 in
theorem wd_1303 : Cond.fieldLink "CapitalCaseModel" 43 "CapitalCaseModel" "houses" "[I" ∈ xTB := xw 1303 (by decide +kernel) (by decide +kernel)
set_option maxRecDepth 100000 in
theorem wd_1304 : Cond.fieldLink "CapitalCaseModel" 46 "CapitalCaseModel" "piecesTold" "[I" ∈ xTB := xw 1304 (by decide +kernel) (by decide +kernel)
set_option maxRecDepth 100000 in
theorem wd_1305 : Cond.fieldLink "CapitalCaseModel" 49 "CapitalCaseModel" "verses" "[I" ∈ xTB := xw 1305 (by decide +kernel) (by decide +kernel)
set_option maxRecDepth 100000 in
theorem wd_1306 : Cond.fieldLink "CapitalCaseModel" 52 "CapitalCaseModel" "longOf" "[I" ∈ xTB := xw 1306 (by decide +kernel) (by decide +kernel)
set_option maxRecDepth 100000 in
theorem wd_1307 : Cond.fieldLink "CapitalCaseModel" 55 "CapitalCaseModel" "wantsOf" "[I" ∈ xTB := xw 1307 (by decide +kernel) (by decide +kernel)
set_option maxRecDepth 100000 in
theorem wd_1308 : Cond.fieldLink "CapitalCaseModel" 58 "CapitalCaseModel" "valueOf" "[I" ∈ xTB := xw 1308 (by decide +kernel) (by decide +kernel)
set_option maxRecDepth 100000 in
theorem wd_1309 : Cond.fieldLink "CapitalCaseModel" 61 "CapitalCaseModel" "dueOf" "[I" ∈ xTB := xw 1309 (by decide +kernel) (by decide +kernel)
set_option maxRecDepth 100000 in
theorem wd_1310 : Cond.fieldLink "CapitalCaseModel" 64 "CapitalCaseModel" "spoils" "[I" ∈ xTB := xw 1310 (by decide +kernel) (by decide +kernel)
set_option maxRecDepth 100000 in
theorem wd_1311 : Cond.fieldLink "CapitalCaseModel" 67 "CapitalCaseModel" "thieves" "[I" ∈ xTB := xw 1311 (by decide +kernel) (by decide +kernel)
set_option maxRecDepth 100000 in
theorem wd_1312 : Cond.fieldLink "CapitalCaseModel" 70 "CapitalCaseModel" "seed" "[I" ∈ xTB := xw 1312 (by decide +kernel) (by decide +kernel)
set_option maxRecDepth 100000 in
theorem wd_1313 : Cond.fieldLink "CapitalCaseModel" 73 "CapitalCaseModel" "lawFirst" "[I" ∈ xTB := xw 1313 (by decide +kernel) (by decide +kernel)
set_option maxRecDepth 100000 in
theorem wd_1314 : Cond.fieldLink "CapitalCaseModel" 76 "CapitalCaseModel" "lawLast" "[I" ∈ xTB := xw 1314 (by decide +kernel) (by decide +kernel)
set_option maxRecDepth 100000 in
theorem wd_1315 : Cond.fieldLink "CapitalCaseModel" 239 "CapitalCaseModel" "branches" "I" ∈ xTB := xw 1315 (by decide +kernel) (by decide +kernel)
set_option maxRecDepth 100000 in
theorem wd_1316 : Cond.fieldLink "CapitalCaseModel" 79 "CapitalCaseModel" "hasTest" "[Z" ∈ xTB := xw 1316 (by decide +kernel) (by decide +kernel)
set_option maxRecDepth 100000 in
theorem wd_1317 : Cond.fieldLink "CapitalCaseModel" 83 "CapitalCaseModel" "testFrom" "[I" ∈ xTB := xw 1317 (by decide +kernel) (by decide +kernel)
set_option maxRecDepth 100000 in
theorem wd_1318 : Cond.fieldLink "CapitalCaseModel" 86 "CapitalCaseModel" "testMid" "[I" ∈ xTB := xw 1318 (by decide +kernel) (by decide +kernel)
set_option maxRecDepth 100000 in
theorem wd_1319 : Cond.fieldLink "CapitalCaseModel" 89 "CapitalCaseModel" "testTo" "[I" ∈ xTB := xw 1319 (by decide +kernel) (by decide +kernel)
set_option maxRecDepth 100000 in
theorem wd_1320 : Cond.fieldLink "CapitalCaseModel" 92 "CapitalCaseModel" "termTo" "[I" ∈ xTB := xw 1320 (by decide +kernel) (by decide +kernel)
set_option maxRecDepth 100000 in
theorem wd_1321 : Cond.fieldLink "CapitalCaseModel" 242 "CapitalCaseModel" "codes" "I" ∈ xTB := xw 1321 (by decide +kernel) (by decide +kernel)
set_option maxRecDepth 100000 in
theorem wd_1322 : Cond.fieldLink "CapitalCaseModel" 95 "CapitalCaseModel" "code" "[I" ∈ xTB := xw 1322 (by decide +kernel) (by decide +kernel)
set_option maxRecDepth 100000 in
theorem wd_1323 : Cond.fieldLink "CapitalCaseModel" 98 "CapitalCaseModel" "codeInt" "[I" ∈ xTB := xw 1323 (by decide +kernel) (by decide +kernel)
set_option maxRecDepth 100000 in
theorem wd_1324 : Cond.fieldLink "CapitalCaseModel" 101 "CapitalCaseModel" "letters" "[I" ∈ xTB := xw 1324 (by decide +kernel) (by decide +kernel)
set_option maxRecDepth 100000 in
theorem wd_1326 : Cond.fieldLink "CapitalCaseModel" 104 "CapitalCaseModel" "waits" "[I" ∈ xTB := xw 1326 (by decide +kernel) (by decide +kernel)
set_option maxRecDepth 100000 in
theorem wd_1328 : Cond.fieldLink "CapitalCaseModel" 107 "CapitalCaseModel" "variables" "[I" ∈ xTB := xw 1328 (by decide +kernel) (by decide +kernel)
set_option maxRecDepth 100000 in
theorem wd_1329 : Cond.fieldLink "CapitalCaseModel" 110 "CapitalCaseModel" "pile" "[I" ∈ xTB := xw 1329 (by decide +kernel) (by decide +kernel)
set_option maxRecDepth 100000 in
theorem wd_1331 : Cond.fieldLink "CapitalCaseModel" 113 "CapitalCaseModel" "now" "[I" ∈ xTB := xw 1331 (by decide +kernel) (by decide +kernel)
set_option maxRecDepth 100000 in
theorem wd_1332 : Cond.fieldLink "CapitalCaseModel" 116 "CapitalCaseModel" "row" "[I" ∈ xTB := xw 1332 (by decide +kernel) (by decide +kernel)
set_option maxRecDepth 100000 in
theorem wd_1333 : Cond.fieldLink "CapitalCaseModel" 328 "CapitalCaseModel" "lots" "I" ∈ xTB := xw 1333 (by decide +kernel) (by decide +kernel)
set_option maxRecDepth 100000 in
theorem wd_1334 : Cond.fieldLink "CapitalCaseModel" 331 "CapitalCaseModel" "isStill" "Z" ∈ xTB := xw 1334 (by decide +kernel) (by decide +kernel)
set_option maxRecDepth 100000 in
theorem wd_1335 : Cond.fieldLink "CapitalCaseModel" 334 "CapitalCaseModel" "shut" "I" ∈ xTB := xw 1335 (by decide +kernel) (by decide +kernel)
set_option maxRecDepth 100000 in
theorem wd_1337 : Cond.fieldLink "CapitalCaseModel" 119 "CapitalCaseModel" "wentNow" "[Z" ∈ xTB := xw 1337 (by decide +kernel) (by decide +kernel)
set_option maxRecDepth 100000 in
theorem wd_1338 : Cond.fieldLink "CapitalCaseModel" 122 "CapitalCaseModel" "wearsBy" "[I" ∈ xTB := xw 1338 (by decide +kernel) (by decide +kernel)
set_option maxRecDepth 100000 in
theorem wd_1339 : Cond.fieldLink "CapitalCaseModel" 125 "CapitalCaseModel" "paysBy" "[I" ∈ xTB := xw 1339 (by decide +kernel) (by decide +kernel)
set_option maxRecDepth 100000 in
theorem wd_1340 : Cond.fieldLink "CapitalCaseModel" 248 "CapitalCaseModel" "undos" "I" ∈ xTB := xw 1340 (by decide +kernel) (by decide +kernel)
set_option maxRecDepth 100000 in
theorem wd_1341 : Cond.fieldLink "CapitalCaseModel" 128 "CapitalCaseModel" "history" "[I" ∈ xTB := xw 1341 (by decide +kernel) (by decide +kernel)
set_option maxRecDepth 100000 in
theorem wd_1342 : Cond.fieldLink "CapitalCaseModel" 131 "CapitalCaseModel" "ahead" "[I" ∈ xTB := xw 1342 (by decide +kernel) (by decide +kernel)
set_option maxRecDepth 100000 in
theorem wd_1343 : Cond.fieldLink "CapitalCaseModel" 442 "CapitalCaseModel" "bestSum" "I" ∈ xTB := xw 1343 (by decide +kernel) (by decide +kernel)
set_option maxRecDepth 100000 in
theorem wd_1344 : Cond.fieldLink "CapitalCaseModel" 445 "CapitalCaseModel" "bestSet" "I" ∈ xTB := xw 1344 (by decide +kernel) (by decide +kernel)
set_option maxRecDepth 100000 in
theorem wd_1345 : Cond.fieldLink "CapitalCaseModel" 251 "CapitalCaseModel" "tolds" "I" ∈ xTB := xw 1345 (by decide +kernel) (by decide +kernel)
set_option maxRecDepth 100000 in
theorem wd_1346 : Cond.fieldLink "CapitalCaseModel" 134 "CapitalCaseModel" "toldLetter" "[I" ∈ xTB := xw 1346 (by decide +kernel) (by decide +kernel)
set_option maxRecDepth 100000 in
theorem wd_1347 : Cond.fieldLink "CapitalCaseModel" 137 "CapitalCaseModel" "toldWorn" "[I" ∈ xTB := xw 1347 (by decide +kernel) (by decide +kernel)
set_option maxRecDepth 100000 in
theorem wd_1348 : Cond.fieldLink "CapitalCaseModel" 140 "CapitalCaseModel" "toldSo" "[Z" ∈ xTB := xw 1348 (by decide +kernel) (by decide +kernel)
set_option maxRecDepth 100000 in
theorem wd_1349 : Cond.fieldLink "CapitalCaseModel" 143 "CapitalCaseModel" "isHeld" "[Z" ∈ xTB := xw 1349 (by decide +kernel) (by decide +kernel)
set_option maxRecDepth 100000 in
theorem wd_1350 : Cond.fieldLink "CapitalCaseModel" 146 "CapitalCaseModel" "heldRows" "[I" ∈ xTB := xw 1350 (by decide +kernel) (by decide +kernel)
set_option maxRecDepth 100000 in
theorem wd_1492 : Cond.arrayClass .long ∈ xTB := xw 1492 (by decide +kernel) (by decide +kernel)
set_option maxRecDepth 100000 in
theorem wd_1493 : Cond.methodLink "CapitalCaseLaw" 17 ⟨"CapitalCaseModel", "feed", "(IIIII)I"⟩ ∈ xTB := xw 1493 (by decide +kernel) (by decide +kernel)
set_option maxRecDepth 100000 in
theorem wd_1494 : Cond.instanceMethod ⟨"CapitalCaseModel", "feed", "(IIIII)I"⟩ ∈ xTB := xw 1494 (by decide +kernel) (by decide +kernel)
set_option maxRecDepth 100000 in
theorem wd_1495 : Cond.selects "CapitalCaseModel" ⟨"CapitalCaseModel", "feed", "(IIIII)I"⟩ ⟨"CapitalCaseModel", "feed", "(IIIII)I"⟩ ∈ xTB := xw 1495 (by decide +kernel) (by decide +kernel)
set_option maxRecDepth 100000 in
theorem wd_1497 : Cond.methodLink "CapitalCaseModel" 166 ⟨"CapitalCaseModel", "put", "(I)V"⟩ ∈ xTB := xw 1497 (by decide +kernel) (by decide +kernel)
set_option maxRecDepth 100000 in
theorem wd_1499 : Cond.instanceMethod ⟨"CapitalCaseModel", "put", "(I)V"⟩ ∈ xTB := xw 1499 (by decide +kernel) (by decide +kernel)
set_option maxRecDepth 100000 in
theorem wd_1501 : Cond.methodLink "CapitalCaseLaw" 22 ⟨"CapitalCaseModel", "back", "(I)I"⟩ ∈ xTB := xw 1501 (by decide +kernel) (by decide +kernel)
set_option maxRecDepth 100000 in
theorem wd_1502 : Cond.instanceMethod ⟨"CapitalCaseModel", "back", "(I)I"⟩ ∈ xTB := xw 1502 (by decide +kernel) (by decide +kernel)
set_option maxRecDepth 100000 in
theorem wd_1503 : Cond.selects "CapitalCaseModel" ⟨"CapitalCaseModel", "back", "(I)I"⟩ ⟨"CapitalCaseModel", "back", "(I)I"⟩ ∈ xTB := xw 1503 (by decide +kernel) (by decide +kernel)
set_option maxRecDepth 100000 in
theorem wd_1505 : Cond.methodLink "CapitalCaseLaw" 27 ⟨"CapitalCaseModel", "read", "()I"⟩ ∈ xTB := xw 1505 (by decide +kernel) (by decide +kernel)
set_option maxRecDepth 100000 in
theorem wd_1506 : Cond.instanceMethod ⟨"CapitalCaseModel", "read", "()I"⟩ ∈ xTB := xw 1506 (by decide +kernel) (by decide +kernel)
set_option maxRecDepth 100000 in
theorem wd_1507 : Cond.selects "CapitalCaseModel" ⟨"CapitalCaseModel", "read", "()I"⟩ ⟨"CapitalCaseModel", "read", "()I"⟩ ∈ xTB := xw 1507 (by decide +kernel) (by decide +kernel)
set_option maxRecDepth 100000 in
theorem wd_1509 : Cond.methodLink "CapitalCaseModel" 224 ⟨"CapitalCaseModel", "cut", "()V"⟩ ∈ xTB := xw 1509 (by decide +kernel) (by decide +kernel)
set_option maxRecDepth 100000 in
theorem wd_1511 : Cond.instanceMethod ⟨"CapitalCaseModel", "cut", "()V"⟩ ∈ xTB := xw 1511 (by decide +kernel) (by decide +kernel)
set_option maxRecDepth 100000 in
theorem wd_1513 : Cond.methodLink "CapitalCaseModel" 181 ⟨"CapitalCaseModel", "byteAt", "(I)I"⟩ ∈ xTB := xw 1513 (by decide +kernel) (by decide +kernel)
set_option maxRecDepth 100000 in
theorem wd_1515 : Cond.instanceMethod ⟨"CapitalCaseModel", "byteAt", "(I)I"⟩ ∈ xTB := xw 1515 (by decide +kernel) (by decide +kernel)
set_option maxRecDepth 100000 in
theorem wd_1517 : Cond.methodLink "CapitalCaseModel" 185 ⟨"CapitalCaseModel", "token", "(IIIJ)V"⟩ ∈ xTB := xw 1517 (by decide +kernel) (by decide +kernel)
set_option maxRecDepth 100000 in
theorem wd_1519 : Cond.instanceMethod ⟨"CapitalCaseModel", "token", "(IIIJ)V"⟩ ∈ xTB := xw 1519 (by decide +kernel) (by decide +kernel)
set_option maxRecDepth 100000 in
theorem wd_1531 : Cond.methodLink "CapitalCaseModel" 218 ⟨"CapitalCaseModel", "is", "(I)Z"⟩ ∈ xTB := xw 1531 (by decide +kernel) (by decide +kernel)
set_option maxRecDepth 100000 in
theorem wd_1533 : Cond.instanceMethod ⟨"CapitalCaseModel", "is", "(I)Z"⟩ ∈ xTB := xw 1533 (by decide +kernel) (by decide +kernel)
set_option maxRecDepth 100000 in
theorem wd_1617 : Cond.methodLink "CapitalCaseLaw" 31 ⟨"CapitalCaseModel", "place", "()I"⟩ ∈ xTB := xw 1617 (by decide +kernel) (by decide +kernel)
set_option maxRecDepth 100000 in
theorem wd_1618 : Cond.instanceMethod ⟨"CapitalCaseModel", "place", "()I"⟩ ∈ xTB := xw 1618 (by decide +kernel) (by decide +kernel)
set_option maxRecDepth 100000 in
theorem wd_1619 : Cond.selects "CapitalCaseModel" ⟨"CapitalCaseModel", "place", "()I"⟩ ⟨"CapitalCaseModel", "place", "()I"⟩ ∈ xTB := xw 1619 (by decide +kernel) (by decide +kernel)
set_option maxRecDepth 100000 in
theorem wd_1621 : Cond.methodLink "CapitalCaseLaw" 36 ⟨"CapitalCaseModel", "house", "(III)I"⟩ ∈ xTB := xw 1621 (by decide +kernel) (by decide +kernel)
set_option maxRecDepth 100000 in
theorem wd_1622 : Cond.instanceMethod ⟨"CapitalCaseModel", "house", "(III)I"⟩ ∈ xTB := xw 1622 (by decide +kernel) (by decide +kernel)
set_option maxRecDepth 100000 in
theorem wd_1623 : Cond.selects "CapitalCaseModel" ⟨"CapitalCaseModel", "house", "(III)I"⟩ ⟨"CapitalCaseModel", "house", "(III)I"⟩ ∈ xTB := xw 1623 (by decide +kernel) (by decide +kernel)
set_option maxRecDepth 100000 in
theorem wd_1625 : Cond.methodLink "CapitalCaseModel" 405 ⟨"CapitalCaseModel", "isHouse", "(I)Z"⟩ ∈ xTB := xw 1625 (by decide +kernel) (by decide +kernel)
set_option maxRecDepth 100000 in
theorem wd_1627 : Cond.instanceMethod ⟨"CapitalCaseModel", "isHouse", "(I)Z"⟩ ∈ xTB := xw 1627 (by decide +kernel) (by decide +kernel)
set_option maxRecDepth 100000 in
theorem wd_1629 : Cond.methodLink "CapitalCaseModel" 324 ⟨"CapitalCaseModel", "in", "(III)Z"⟩ ∈ xTB := xw 1629 (by decide +kernel) (by decide +kernel)
set_option maxRecDepth 100000 in
theorem wd_1630 : Cond.static ⟨"CapitalCaseModel", "in", "(III)Z"⟩ ∈ xTB := xw 1630 (by decide +kernel) (by decide +kernel)
set_option maxRecDepth 100000 in
theorem wd_1632 : Cond.methodLink "CapitalCaseModel" 408 ⟨"CapitalCaseModel", "isSort", "(I)Z"⟩ ∈ xTB := xw 1632 (by decide +kernel) (by decide +kernel)
set_option maxRecDepth 100000 in
theorem wd_1633 : Cond.static ⟨"CapitalCaseModel", "isSort", "(I)Z"⟩ ∈ xTB := xw 1633 (by decide +kernel) (by decide +kernel)
set_option maxRecDepth 100000 in
theorem wd_1635 : Cond.methodLink "CapitalCaseModel" 411 ⟨"CapitalCaseModel", "copies", "()V"⟩ ∈ xTB := xw 1635 (by decide +kernel) (by decide +kernel)
set_option maxRecDepth 100000 in
theorem wd_1637 : Cond.instanceMethod ⟨"CapitalCaseModel", "copies", "()V"⟩ ∈ xTB := xw 1637 (by decide +kernel) (by decide +kernel)
set_option maxRecDepth 100000 in
theorem wd_1674 : Cond.methodLink "CapitalCaseLaw" 41 ⟨"CapitalCaseModel", "verse", "(II)I"⟩ ∈ xTB := xw 1674 (by decide +kernel) (by decide +kernel)
set_option maxRecDepth 100000 in
theorem wd_1675 : Cond.instanceMethod ⟨"CapitalCaseModel", "verse", "(II)I"⟩ ∈ xTB := xw 1675 (by decide +kernel) (by decide +kernel)
set_option maxRecDepth 100000 in
theorem wd_1676 : Cond.selects "CapitalCaseModel" ⟨"CapitalCaseModel", "verse", "(II)I"⟩ ⟨"CapitalCaseModel", "verse", "(II)I"⟩ ∈ xTB := xw 1676 (by decide +kernel) (by decide +kernel)
set_option maxRecDepth 100000 in
theorem wd_1678 : Cond.methodLink "CapitalCaseModel" 417 ⟨"CapitalCaseModel", "isVerse", "(I)Z"⟩ ∈ xTB := xw 1678 (by decide +kernel) (by decide +kernel)
set_option maxRecDepth 100000 in
theorem wd_1680 : Cond.instanceMethod ⟨"CapitalCaseModel", "isVerse", "(I)Z"⟩ ∈ xTB := xw 1680 (by decide +kernel) (by decide +kernel)
set_option maxRecDepth 100000 in
theorem wd_1690 : Cond.methodLink "CapitalCaseLaw" 45 ⟨"CapitalCaseModel", "wants", "(II)I"⟩ ∈ xTB := xw 1690 (by decide +kernel) (by decide +kernel)
set_option maxRecDepth 100000 in
theorem wd_1691 : Cond.instanceMethod ⟨"CapitalCaseModel", "wants", "(II)I"⟩ ∈ xTB := xw 1691 (by decide +kernel) (by decide +kernel)
set_option maxRecDepth 100000 in
theorem wd_1692 : Cond.selects "CapitalCaseModel" ⟨"CapitalCaseModel", "wants", "(II)I"⟩ ⟨"CapitalCaseModel", "wants", "(II)I"⟩ ∈ xTB := xw 1692 (by decide +kernel) (by decide +kernel)
set_option maxRecDepth 100000 in
theorem wd_1694 : Cond.methodLink "CapitalCaseLaw" 50 ⟨"CapitalCaseModel", "tells", "(IIII)I"⟩ ∈ xTB := xw 1694 (by decide +kernel) (by decide +kernel)
set_option maxRecDepth 100000 in
theorem wd_1695 : Cond.instanceMethod ⟨"CapitalCaseModel", "tells", "(IIII)I"⟩ ∈ xTB := xw 1695 (by decide +kernel) (by decide +kernel)
set_option maxRecDepth 100000 in
theorem wd_1696 : Cond.selects "CapitalCaseModel" ⟨"CapitalCaseModel", "tells", "(IIII)I"⟩ ⟨"CapitalCaseModel", "tells", "(IIII)I"⟩ ∈ xTB := xw 1696 (by decide +kernel) (by decide +kernel)
set_option maxRecDepth 100000 in
theorem wd_1698 : Cond.constant "CapitalCaseModel" 420 (-1000000000) ∈ xTB := xw 1698 (by decide +kernel) (by decide +kernel)
set_option maxRecDepth 100000 in
theorem wd_1707 : Cond.methodLink "CapitalCaseLaw" 55 ⟨"CapitalCaseModel", "set", "(I)Z"⟩ ∈ xTB := xw 1707 (by decide +kernel) (by decide +kernel)
set_option maxRecDepth 100000 in
theorem wd_1708 : Cond.instanceMethod ⟨"CapitalCaseModel", "set", "(I)Z"⟩ ∈ xTB := xw 1708 (by decide +kernel) (by decide +kernel)
set_option maxRecDepth 100000 in
theorem wd_1709 : Cond.selects "CapitalCaseModel" ⟨"CapitalCaseModel", "set", "(I)Z"⟩ ⟨"CapitalCaseModel", "set", "(I)Z"⟩ ∈ xTB := xw 1709 (by decide +kernel) (by decide +kernel)
set_option maxRecDepth 100000 in
theorem wd_1727 : Cond.methodLink "CapitalCaseModel" 424 ⟨"CapitalCaseModel", "records", "()V"⟩ ∈ xTB := xw 1727 (by decide +kernel) (by decide +kernel)
set_option maxRecDepth 100000 in
theorem wd_1729 : Cond.instanceMethod ⟨"CapitalCaseModel", "records", "()V"⟩ ∈ xTB := xw 1729 (by decide +kernel) (by decide +kernel)
set_option maxRecDepth 100000 in
theorem wd_1731 : Cond.methodLink "CapitalCaseLaw" 59 ⟨"CapitalCaseModel", "clear", "(I)Z"⟩ ∈ xTB := xw 1731 (by decide +kernel) (by decide +kernel)
set_option maxRecDepth 100000 in
theorem wd_1732 : Cond.instanceMethod ⟨"CapitalCaseModel", "clear", "(I)Z"⟩ ∈ xTB := xw 1732 (by decide +kernel) (by decide +kernel)
set_option maxRecDepth 100000 in
theorem wd_1733 : Cond.selects "CapitalCaseModel" ⟨"CapitalCaseModel", "clear", "(I)Z"⟩ ⟨"CapitalCaseModel", "clear", "(I)Z"⟩ ∈ xTB := xw 1733 (by decide +kernel) (by decide +kernel)
set_option maxRecDepth 100000 in
theorem wd_1735 : Cond.methodLink "CapitalCaseLaw" 64 ⟨"CapitalCaseModel", "lend", "(III)Z"⟩ ∈ xTB := xw 1735 (by decide +kernel) (by decide +kernel)
set_option maxRecDepth 100000 in
theorem wd_1736 : Cond.instanceMethod ⟨"CapitalCaseModel", "lend", "(III)Z"⟩ ∈ xTB := xw 1736 (by decide +kernel) (by decide +kernel)
set_option maxRecDepth 100000 in
theorem wd_1737 : Cond.selects "CapitalCaseModel" ⟨"CapitalCaseModel", "lend", "(III)Z"⟩ ⟨"CapitalCaseModel", "lend", "(III)Z"⟩ ∈ xTB := xw 1737 (by decide +kernel) (by decide +kernel)
set_option maxRecDepth 100000 in
theorem wd_1739 : Cond.methodLink "CapitalCaseModel" 427 ⟨"CapitalCaseModel", "areTwo", "(III)Z"⟩ ∈ xTB := xw 1739 (by decide +kernel) (by decide +kernel)
set_option maxRecDepth 100000 in
theorem wd_1741 : Cond.instanceMethod ⟨"CapitalCaseModel", "areTwo", "(III)Z"⟩ ∈ xTB := xw 1741 (by decide +kernel) (by decide +kernel)
set_option maxRecDepth 100000 in
theorem wd_1743 : Cond.methodLink "CapitalCaseLaw" 68 ⟨"CapitalCaseModel", "giveBack", "(III)Z"⟩ ∈ xTB := xw 1743 (by decide +kernel) (by decide +kernel)
set_option maxRecDepth 100000 in
theorem wd_1744 : Cond.instanceMethod ⟨"CapitalCaseModel", "giveBack", "(III)Z"⟩ ∈ xTB := xw 1744 (by decide +kernel) (by decide +kernel)
set_option maxRecDepth 100000 in
theorem wd_1745 : Cond.selects "CapitalCaseModel" ⟨"CapitalCaseModel", "giveBack", "(III)Z"⟩ ⟨"CapitalCaseModel", "giveBack", "(III)Z"⟩ ∈ xTB := xw 1745 (by decide +kernel) (by decide +kernel)
set_option maxRecDepth 100000 in
theorem wd_1747 : Cond.methodLink "CapitalCaseLaw" 72 ⟨"CapitalCaseModel", "days", "(I)I"⟩ ∈ xTB := xw 1747 (by decide +kernel) (by decide +kernel)
set_option maxRecDepth 100000 in
theorem wd_1748 : Cond.instanceMethod ⟨"CapitalCaseModel", "days", "(I)I"⟩ ∈ xTB := xw 1748 (by decide +kernel) (by decide +kernel)
set_option maxRecDepth 100000 in
theorem wd_1749 : Cond.selects "CapitalCaseModel" ⟨"CapitalCaseModel", "days", "(I)I"⟩ ⟨"CapitalCaseModel", "days", "(I)I"⟩ ∈ xTB := xw 1749 (by decide +kernel) (by decide +kernel)
set_option maxRecDepth 100000 in
theorem wd_1751 : Cond.methodLink "CapitalCaseModel" 430 ⟨"CapitalCaseModel", "isLong", "(I)Z"⟩ ∈ xTB := xw 1751 (by decide +kernel) (by decide +kernel)
set_option maxRecDepth 100000 in
theorem wd_1752 : Cond.static ⟨"CapitalCaseModel", "isLong", "(I)Z"⟩ ∈ xTB := xw 1752 (by decide +kernel) (by decide +kernel)
set_option maxRecDepth 100000 in
theorem wd_1754 : Cond.methodLink "CapitalCaseModel" 433 ⟨"CapitalCaseModel", "goes", "(I)V"⟩ ∈ xTB := xw 1754 (by decide +kernel) (by decide +kernel)
set_option maxRecDepth 100000 in
theorem wd_1756 : Cond.instanceMethod ⟨"CapitalCaseModel", "goes", "(I)V"⟩ ∈ xTB := xw 1756 (by decide +kernel) (by decide +kernel)
set_option maxRecDepth 100000 in
theorem wd_1758 : Cond.methodLink "CapitalCaseModel" 402 ⟨"CapitalCaseModel", "dayGoes", "()V"⟩ ∈ xTB := xw 1758 (by decide +kernel) (by decide +kernel)
set_option maxRecDepth 100000 in
theorem wd_1760 : Cond.instanceMethod ⟨"CapitalCaseModel", "dayGoes", "()V"⟩ ∈ xTB := xw 1760 (by decide +kernel) (by decide +kernel)
set_option maxRecDepth 100000 in
theorem wd_1766 : Cond.methodLink "CapitalCaseModel" 395 ⟨"CapitalCaseModel", "areThieves", "()Z"⟩ ∈ xTB := xw 1766 (by decide +kernel) (by decide +kernel)
set_option maxRecDepth 100000 in
theorem wd_1768 : Cond.instanceMethod ⟨"CapitalCaseModel", "areThieves", "()Z"⟩ ∈ xTB := xw 1768 (by decide +kernel) (by decide +kernel)
set_option maxRecDepth 100000 in
theorem wd_1770 : Cond.methodLink "CapitalCaseModel" 341 ⟨"CapitalCaseModel", "lotOf", "(II)I"⟩ ∈ xTB := xw 1770 (by decide +kernel) (by decide +kernel)
set_option maxRecDepth 100000 in
theorem wd_1772 : Cond.instanceMethod ⟨"CapitalCaseModel", "lotOf", "(II)I"⟩ ∈ xTB := xw 1772 (by decide +kernel) (by decide +kernel)
set_option maxRecDepth 100000 in
theorem wd_1774 : Cond.methodLink "CapitalCaseModel" 338 ⟨"CapitalCaseModel", "mixed", "(II)I"⟩ ∈ xTB := xw 1774 (by decide +kernel) (by decide +kernel)
set_option maxRecDepth 100000 in
theorem wd_1775 : Cond.static ⟨"CapitalCaseModel", "mixed", "(II)I"⟩ ∈ xTB := xw 1775 (by decide +kernel) (by decide +kernel)
set_option maxRecDepth 100000 in
theorem wd_1777 : Cond.constant "CapitalCaseModel" 337 1103515245 ∈ xTB := xw 1777 (by decide +kernel) (by decide +kernel)
set_option maxRecDepth 100000 in
theorem wd_1782 : Cond.methodLink "CapitalCaseLaw" 77 ⟨"CapitalCaseModel", "undo", "()Z"⟩ ∈ xTB := xw 1782 (by decide +kernel) (by decide +kernel)
set_option maxRecDepth 100000 in
theorem wd_1783 : Cond.instanceMethod ⟨"CapitalCaseModel", "undo", "()Z"⟩ ∈ xTB := xw 1783 (by decide +kernel) (by decide +kernel)
set_option maxRecDepth 100000 in
theorem wd_1784 : Cond.selects "CapitalCaseModel" ⟨"CapitalCaseModel", "undo", "()Z"⟩ ⟨"CapitalCaseModel", "undo", "()Z"⟩ ∈ xTB := xw 1784 (by decide +kernel) (by decide +kernel)
set_option maxRecDepth 100000 in
theorem wd_1786 : Cond.methodLink "CapitalCaseLaw" 81 ⟨"CapitalCaseModel", "from", "(II)I"⟩ ∈ xTB := xw 1786 (by decide +kernel) (by decide +kernel)
set_option maxRecDepth 100000 in
theorem wd_1787 : Cond.instanceMethod ⟨"CapitalCaseModel", "from", "(II)I"⟩ ∈ xTB := xw 1787 (by decide +kernel) (by decide +kernel)
set_option maxRecDepth 100000 in
theorem wd_1788 : Cond.selects "CapitalCaseModel" ⟨"CapitalCaseModel", "from", "(II)I"⟩ ⟨"CapitalCaseModel", "from", "(II)I"⟩ ∈ xTB := xw 1788 (by decide +kernel) (by decide +kernel)
set_option maxRecDepth 100000 in
theorem wd_1790 : Cond.methodLink "CapitalCaseLaw" 85 ⟨"CapitalCaseModel", "best", "(I)I"⟩ ∈ xTB := xw 1790 (by decide +kernel) (by decide +kernel)
set_option maxRecDepth 100000 in
theorem wd_1791 : Cond.instanceMethod ⟨"CapitalCaseModel", "best", "(I)I"⟩ ∈ xTB := xw 1791 (by decide +kernel) (by decide +kernel)
set_option maxRecDepth 100000 in
theorem wd_1792 : Cond.selects "CapitalCaseModel" ⟨"CapitalCaseModel", "best", "(I)I"⟩ ⟨"CapitalCaseModel", "best", "(I)I"⟩ ∈ xTB := xw 1792 (by decide +kernel) (by decide +kernel)
set_option maxRecDepth 100000 in
theorem wd_1794 : Cond.methodLink "CapitalCaseModel" 451 ⟨"CapitalCaseModel", "findsBest", "()V"⟩ ∈ xTB := xw 1794 (by decide +kernel) (by decide +kernel)
set_option maxRecDepth 100000 in
theorem wd_1796 : Cond.instanceMethod ⟨"CapitalCaseModel", "findsBest", "()V"⟩ ∈ xTB := xw 1796 (by decide +kernel) (by decide +kernel)
set_option maxRecDepth 100000 in
theorem wd_1798 : Cond.methodLink "CapitalCaseModel" 436 ⟨"CapitalCaseModel", "openBits", "()I"⟩ ∈ xTB := xw 1798 (by decide +kernel) (by decide +kernel)
set_option maxRecDepth 100000 in
theorem wd_1800 : Cond.instanceMethod ⟨"CapitalCaseModel", "openBits", "()I"⟩ ∈ xTB := xw 1800 (by decide +kernel) (by decide +kernel)
set_option maxRecDepth 100000 in
theorem wd_1802 : Cond.methodLink "CapitalCaseModel" 439 ⟨"CapitalCaseModel", "keepsAhead", "()V"⟩ ∈ xTB := xw 1802 (by decide +kernel) (by decide +kernel)
set_option maxRecDepth 100000 in
theorem wd_1804 : Cond.instanceMethod ⟨"CapitalCaseModel", "keepsAhead", "()V"⟩ ∈ xTB := xw 1804 (by decide +kernel) (by decide +kernel)
set_option maxRecDepth 100000 in
theorem wd_1810 : Cond.methodLink "CapitalCaseLaw" 89 ⟨"CapitalCaseModel", "worth", "(II)I"⟩ ∈ xTB := xw 1810 (by decide +kernel) (by decide +kernel)
set_option maxRecDepth 100000 in
theorem wd_1811 : Cond.instanceMethod ⟨"CapitalCaseModel", "worth", "(II)I"⟩ ∈ xTB := xw 1811 (by decide +kernel) (by decide +kernel)
set_option maxRecDepth 100000 in
theorem wd_1812 : Cond.selects "CapitalCaseModel" ⟨"CapitalCaseModel", "worth", "(II)I"⟩ ⟨"CapitalCaseModel", "worth", "(II)I"⟩ ∈ xTB := xw 1812 (by decide +kernel) (by decide +kernel)
set_option maxRecDepth 100000 in
theorem wd_1814 : Cond.methodLink "CapitalCaseLaw" 93 ⟨"CapitalCaseModel", "pillar", "(I)I"⟩ ∈ xTB := xw 1814 (by decide +kernel) (by decide +kernel)
set_option maxRecDepth 100000 in
theorem wd_1815 : Cond.instanceMethod ⟨"CapitalCaseModel", "pillar", "(I)I"⟩ ∈ xTB := xw 1815 (by decide +kernel) (by decide +kernel)
set_option maxRecDepth 100000 in
theorem wd_1816 : Cond.selects "CapitalCaseModel" ⟨"CapitalCaseModel", "pillar", "(I)I"⟩ ⟨"CapitalCaseModel", "pillar", "(I)I"⟩ ∈ xTB := xw 1816 (by decide +kernel) (by decide +kernel)
set_option maxRecDepth 100000 in
theorem wd_1818 : Cond.methodLink "CapitalCaseLaw" 97 ⟨"CapitalCaseModel", "twoDays", "(I)I"⟩ ∈ xTB := xw 1818 (by decide +kernel) (by decide +kernel)
set_option maxRecDepth 100000 in
theorem wd_1819 : Cond.instanceMethod ⟨"CapitalCaseModel", "twoDays", "(I)I"⟩ ∈ xTB := xw 1819 (by decide +kernel) (by decide +kernel)
set_option maxRecDepth 100000 in
theorem wd_1820 : Cond.selects "CapitalCaseModel" ⟨"CapitalCaseModel", "twoDays", "(I)I"⟩ ⟨"CapitalCaseModel", "twoDays", "(I)I"⟩ ∈ xTB := xw 1820 (by decide +kernel) (by decide +kernel)
set_option maxRecDepth 100000 in
theorem wd_1822 : Cond.methodLink "CapitalCaseModel" 454 ⟨"CapitalCaseModel", "firstDay", "(I)I"⟩ ∈ xTB := xw 1822 (by decide +kernel) (by decide +kernel)
set_option maxRecDepth 100000 in
theorem wd_1824 : Cond.instanceMethod ⟨"CapitalCaseModel", "firstDay", "(I)I"⟩ ∈ xTB := xw 1824 (by decide +kernel) (by decide +kernel)
set_option maxRecDepth 100000 in
theorem wd_1826 : Cond.methodLink "CapitalCaseLaw" 101 ⟨"CapitalCaseModel", "loans", "(II)I"⟩ ∈ xTB := xw 1826 (by decide +kernel) (by decide +kernel)
set_option maxRecDepth 100000 in
theorem wd_1827 : Cond.instanceMethod ⟨"CapitalCaseModel", "loans", "(II)I"⟩ ∈ xTB := xw 1827 (by decide +kernel) (by decide +kernel)
set_option maxRecDepth 100000 in
theorem wd_1828 : Cond.selects "CapitalCaseModel" ⟨"CapitalCaseModel", "loans", "(II)I"⟩ ⟨"CapitalCaseModel", "loans", "(II)I"⟩ ∈ xTB := xw 1828 (by decide +kernel) (by decide +kernel)
set_option maxRecDepth 100000 in
theorem wd_1834 : Cond.methodLink "CapitalCaseLaw" 105 ⟨"CapitalCaseModel", "bargains", "(I)I"⟩ ∈ xTB := xw 1834 (by decide +kernel) (by decide +kernel)
set_option maxRecDepth 100000 in
theorem wd_1835 : Cond.instanceMethod ⟨"CapitalCaseModel", "bargains", "(I)I"⟩ ∈ xTB := xw 1835 (by decide +kernel) (by decide +kernel)
set_option maxRecDepth 100000 in
theorem wd_1836 : Cond.selects "CapitalCaseModel" ⟨"CapitalCaseModel", "bargains", "(I)I"⟩ ⟨"CapitalCaseModel", "bargains", "(I)I"⟩ ∈ xTB := xw 1836 (by decide +kernel) (by decide +kernel)
set_option maxRecDepth 100000 in
theorem wd_1846 : Cond.methodLink "CapitalCaseLaw" 109 ⟨"CapitalCaseModel", "strike", "(I)I"⟩ ∈ xTB := xw 1846 (by decide +kernel) (by decide +kernel)
set_option maxRecDepth 100000 in
theorem wd_1847 : Cond.instanceMethod ⟨"CapitalCaseModel", "strike", "(I)I"⟩ ∈ xTB := xw 1847 (by decide +kernel) (by decide +kernel)
set_option maxRecDepth 100000 in
theorem wd_1848 : Cond.selects "CapitalCaseModel" ⟨"CapitalCaseModel", "strike", "(I)I"⟩ ⟨"CapitalCaseModel", "strike", "(I)I"⟩ ∈ xTB := xw 1848 (by decide +kernel) (by decide +kernel)
set_option maxRecDepth 100000 in
theorem wd_1850 : Cond.methodLink "CapitalCaseLaw" 113 ⟨"CapitalCaseModel", "clash", "(I)I"⟩ ∈ xTB := xw 1850 (by decide +kernel) (by decide +kernel)
set_option maxRecDepth 100000 in
theorem wd_1851 : Cond.instanceMethod ⟨"CapitalCaseModel", "clash", "(I)I"⟩ ∈ xTB := xw 1851 (by decide +kernel) (by decide +kernel)
set_option maxRecDepth 100000 in
theorem wd_1852 : Cond.selects "CapitalCaseModel" ⟨"CapitalCaseModel", "clash", "(I)I"⟩ ⟨"CapitalCaseModel", "clash", "(I)I"⟩ ∈ xTB := xw 1852 (by decide +kernel) (by decide +kernel)
set_option maxRecDepth 100000 in
theorem wd_1854 : Cond.methodLink "CapitalCaseLaw" 117 ⟨"CapitalCaseModel", "late", "()I"⟩ ∈ xTB := xw 1854 (by decide +kernel) (by decide +kernel)
set_option maxRecDepth 100000 in
theorem wd_1855 : Cond.instanceMethod ⟨"CapitalCaseModel", "late", "()I"⟩ ∈ xTB := xw 1855 (by decide +kernel) (by decide +kernel)
set_option maxRecDepth 100000 in
theorem wd_1856 : Cond.selects "CapitalCaseModel" ⟨"CapitalCaseModel", "late", "()I"⟩ ⟨"CapitalCaseModel", "late", "()I"⟩ ∈ xTB := xw 1856 (by decide +kernel) (by decide +kernel)
set_option maxRecDepth 100000 in
theorem wd_1858 : Cond.methodLink "CapitalCaseLaw" 121 ⟨"CapitalCaseModel", "wornOut", "(II)I"⟩ ∈ xTB := xw 1858 (by decide +kernel) (by decide +kernel)
set_option maxRecDepth 100000 in
theorem wd_1859 : Cond.instanceMethod ⟨"CapitalCaseModel", "wornOut", "(II)I"⟩ ∈ xTB := xw 1859 (by decide +kernel) (by decide +kernel)
set_option maxRecDepth 100000 in
theorem wd_1860 : Cond.selects "CapitalCaseModel" ⟨"CapitalCaseModel", "wornOut", "(II)I"⟩ ⟨"CapitalCaseModel", "wornOut", "(II)I"⟩ ∈ xTB := xw 1860 (by decide +kernel) (by decide +kernel)
set_option maxRecDepth 100000 in
theorem wd_1862 : Cond.methodLink "CapitalCaseLaw" 125 ⟨"CapitalCaseModel", "then", "(IIII)I"⟩ ∈ xTB := xw 1862 (by decide +kernel) (by decide +kernel)
set_option maxRecDepth 100000 in
theorem wd_1863 : Cond.instanceMethod ⟨"CapitalCaseModel", "then", "(IIII)I"⟩ ∈ xTB := xw 1863 (by decide +kernel) (by decide +kernel)
set_option maxRecDepth 100000 in
theorem wd_1864 : Cond.selects "CapitalCaseModel" ⟨"CapitalCaseModel", "then", "(IIII)I"⟩ ⟨"CapitalCaseModel", "then", "(IIII)I"⟩ ∈ xTB := xw 1864 (by decide +kernel) (by decide +kernel)
set_option maxRecDepth 100000 in
theorem wd_1866 : Cond.methodLink "CapitalCaseLaw" 129 ⟨"CapitalCaseModel", "paidIn", "(I)I"⟩ ∈ xTB := xw 1866 (by decide +kernel) (by decide +kernel)
set_option maxRecDepth 100000 in
theorem wd_1867 : Cond.instanceMethod ⟨"CapitalCaseModel", "paidIn", "(I)I"⟩ ∈ xTB := xw 1867 (by decide +kernel) (by decide +kernel)
set_option maxRecDepth 100000 in
theorem wd_1868 : Cond.selects "CapitalCaseModel" ⟨"CapitalCaseModel", "paidIn", "(I)I"⟩ ⟨"CapitalCaseModel", "paidIn", "(I)I"⟩ ∈ xTB := xw 1868 (by decide +kernel) (by decide +kernel)
set_option maxRecDepth 100000 in
theorem wd_1870 : Cond.methodLink "CapitalCaseLaw" 133 ⟨"CapitalCaseModel", "year", "(IIII)I"⟩ ∈ xTB := xw 1870 (by decide +kernel) (by decide +kernel)
set_option maxRecDepth 100000 in
theorem wd_1871 : Cond.instanceMethod ⟨"CapitalCaseModel", "year", "(IIII)I"⟩ ∈ xTB := xw 1871 (by decide +kernel) (by decide +kernel)
set_option maxRecDepth 100000 in
theorem wd_1872 : Cond.selects "CapitalCaseModel" ⟨"CapitalCaseModel", "year", "(IIII)I"⟩ ⟨"CapitalCaseModel", "year", "(IIII)I"⟩ ∈ xTB := xw 1872 (by decide +kernel) (by decide +kernel)
set_option maxRecDepth 100000 in
theorem wd_1874 : Cond.methodLink "CapitalCaseLaw" 138 ⟨"CapitalCaseModel", "tell", "(IIZ)I"⟩ ∈ xTB := xw 1874 (by decide +kernel) (by decide +kernel)
set_option maxRecDepth 100000 in
theorem wd_1875 : Cond.instanceMethod ⟨"CapitalCaseModel", "tell", "(IIZ)I"⟩ ∈ xTB := xw 1875 (by decide +kernel) (by decide +kernel)
set_option maxRecDepth 100000 in
theorem wd_1876 : Cond.selects "CapitalCaseModel" ⟨"CapitalCaseModel", "tell", "(IIZ)I"⟩ ⟨"CapitalCaseModel", "tell", "(IIZ)I"⟩ ∈ xTB := xw 1876 (by decide +kernel) (by decide +kernel)
set_option maxRecDepth 100000 in
theorem wd_1878 : Cond.methodLink "CapitalCaseLaw" 142 ⟨"CapitalCaseModel", "forget", "()I"⟩ ∈ xTB := xw 1878 (by decide +kernel) (by decide +kernel)
set_option maxRecDepth 100000 in
theorem wd_1879 : Cond.instanceMethod ⟨"CapitalCaseModel", "forget", "()I"⟩ ∈ xTB := xw 1879 (by decide +kernel) (by decide +kernel)
set_option maxRecDepth 100000 in
theorem wd_1880 : Cond.selects "CapitalCaseModel" ⟨"CapitalCaseModel", "forget", "()I"⟩ ⟨"CapitalCaseModel", "forget", "()I"⟩ ∈ xTB := xw 1880 (by decide +kernel) (by decide +kernel)
set_option maxRecDepth 100000 in
theorem wd_1882 : Cond.methodLink "CapitalCaseLaw" 146 ⟨"CapitalCaseModel", "whose", "(II)I"⟩ ∈ xTB := xw 1882 (by decide +kernel) (by decide +kernel)
set_option maxRecDepth 100000 in
theorem wd_1883 : Cond.instanceMethod ⟨"CapitalCaseModel", "whose", "(II)I"⟩ ∈ xTB := xw 1883 (by decide +kernel) (by decide +kernel)
set_option maxRecDepth 100000 in
theorem wd_1884 : Cond.selects "CapitalCaseModel" ⟨"CapitalCaseModel", "whose", "(II)I"⟩ ⟨"CapitalCaseModel", "whose", "(II)I"⟩ ∈ xTB := xw 1884 (by decide +kernel) (by decide +kernel)
set_option maxRecDepth 100000 in
theorem wd_1886 : Cond.methodLink "CapitalCaseModel" 467 ⟨"CapitalCaseModel", "whoseBits", "(I)I"⟩ ∈ xTB := xw 1886 (by decide +kernel) (by decide +kernel)
set_option maxRecDepth 100000 in
theorem wd_1888 : Cond.instanceMethod ⟨"CapitalCaseModel", "whoseBits", "(I)I"⟩ ∈ xTB := xw 1888 (by decide +kernel) (by decide +kernel)
set_option maxRecDepth 100000 in
theorem wd_1890 : Cond.methodLink "CapitalCaseModel" 470 ⟨"CapitalCaseModel", "bits", "(I)I"⟩ ∈ xTB := xw 1890 (by decide +kernel) (by decide +kernel)
set_option maxRecDepth 100000 in
theorem wd_1891 : Cond.static ⟨"CapitalCaseModel", "bits", "(I)I"⟩ ∈ xTB := xw 1891 (by decide +kernel) (by decide +kernel)
set_option maxRecDepth 100000 in
theorem wd_1893 : Cond.methodLink "CapitalCaseLaw" 150 ⟨"CapitalCaseModel", "ask", "(II)I"⟩ ∈ xTB := xw 1893 (by decide +kernel) (by decide +kernel)
set_option maxRecDepth 100000 in
theorem wd_1894 : Cond.instanceMethod ⟨"CapitalCaseModel", "ask", "(II)I"⟩ ∈ xTB := xw 1894 (by decide +kernel) (by decide +kernel)
set_option maxRecDepth 100000 in
theorem wd_1895 : Cond.selects "CapitalCaseModel" ⟨"CapitalCaseModel", "ask", "(II)I"⟩ ⟨"CapitalCaseModel", "ask", "(II)I"⟩ ∈ xTB := xw 1895 (by decide +kernel) (by decide +kernel)
set_option maxRecDepth 100000 in
theorem wd_1897 : Cond.methodLink "CapitalCaseLaw" 154 ⟨"CapitalCaseModel", "hold", "(I)Z"⟩ ∈ xTB := xw 1897 (by decide +kernel) (by decide +kernel)
set_option maxRecDepth 100000 in
theorem wd_1898 : Cond.instanceMethod ⟨"CapitalCaseModel", "hold", "(I)Z"⟩ ∈ xTB := xw 1898 (by decide +kernel) (by decide +kernel)
set_option maxRecDepth 100000 in
theorem wd_1899 : Cond.selects "CapitalCaseModel" ⟨"CapitalCaseModel", "hold", "(I)Z"⟩ ⟨"CapitalCaseModel", "hold", "(I)Z"⟩ ∈ xTB := xw 1899 (by decide +kernel) (by decide +kernel)
set_option maxRecDepth 100000 in
theorem wd_1901 : Cond.methodLink "CapitalCaseLaw" 158 ⟨"CapitalCaseModel", "restore", "(I)Z"⟩ ∈ xTB := xw 1901 (by decide +kernel) (by decide +kernel)
set_option maxRecDepth 100000 in
theorem wd_1902 : Cond.instanceMethod ⟨"CapitalCaseModel", "restore", "(I)Z"⟩ ∈ xTB := xw 1902 (by decide +kernel) (by decide +kernel)
set_option maxRecDepth 100000 in
theorem wd_1903 : Cond.selects "CapitalCaseModel" ⟨"CapitalCaseModel", "restore", "(I)Z"⟩ ⟨"CapitalCaseModel", "restore", "(I)Z"⟩ ∈ xTB := xw 1903 (by decide +kernel) (by decide +kernel)
set_option maxRecDepth 100000 in
theorem wd_1905 : Cond.methodLink "CapitalCaseLaw" 162 ⟨"CapitalCaseModel", "count", "(I)I"⟩ ∈ xTB := xw 1905 (by decide +kernel) (by decide +kernel)
set_option maxRecDepth 100000 in
theorem wd_1906 : Cond.instanceMethod ⟨"CapitalCaseModel", "count", "(I)I"⟩ ∈ xTB := xw 1906 (by decide +kernel) (by decide +kernel)
set_option maxRecDepth 100000 in
theorem wd_1907 : Cond.selects "CapitalCaseModel" ⟨"CapitalCaseModel", "count", "(I)I"⟩ ⟨"CapitalCaseModel", "count", "(I)I"⟩ ∈ xTB := xw 1907 (by decide +kernel) (by decide +kernel)
set_option maxRecDepth 100000 in
theorem wd_1909 : Cond.methodLink "CapitalCaseModel" 473 ⟨"CapitalCaseModel", "versesSo", "(II)I"⟩ ∈ xTB := xw 1909 (by decide +kernel) (by decide +kernel)
set_option maxRecDepth 100000 in
theorem wd_1911 : Cond.instanceMethod ⟨"CapitalCaseModel", "versesSo", "(II)I"⟩ ∈ xTB := xw 1911 (by decide +kernel) (by decide +kernel)
set_option maxRecDepth 100000 in
theorem wd_1913 : Cond.methodLink "CapitalCaseModel" 476 ⟨"CapitalCaseModel", "sumNow", "(II)I"⟩ ∈ xTB := xw 1913 (by decide +kernel) (by decide +kernel)
set_option maxRecDepth 100000 in
theorem wd_1915 : Cond.instanceMethod ⟨"CapitalCaseModel", "sumNow", "(II)I"⟩ ∈ xTB := xw 1915 (by decide +kernel) (by decide +kernel)
end
section
set_option maxRecDepth 100000 in
theorem wd_137 : Cond.code ⟨"CapitalCase", "<init>", "()V"⟩ prog_1_method_1_code 1 none ∈ xTB := xw 137 (rfl) (by decide +kernel)
set_option maxRecDepth 100000 in
theorem wd_145 : Cond.code ⟨"CapitalCase$Script", "<init>", "()V"⟩ prog_8_method_1_code 1 none ∈ xTB := xw 145 (rfl) (by decide +kernel)
set_option maxRecDepth 100000 in
theorem wd_150 : Cond.code ⟨"CapitalCase$Script", "wipe", "()V"⟩ prog_8_method_2_code 1 none ∈ xTB := xw 150 (rfl) (by decide +kernel)
set_option maxRecDepth 100000 in
theorem wd_153 : Cond.code ⟨"java/util/Arrays", "fill", "([II)V"⟩ prog_22_method_103_code 4 none ∈ xTB := xw 153 (rfl) (by decide +kernel)
set_option maxRecDepth 100000 in
theorem wd_157 : Cond.code ⟨"CapitalCase$Script", "layDown", "(III)V"⟩ prog_8_method_3_code 4 none ∈ xTB := xw 157 (rfl) (by decide +kernel)
set_option maxRecDepth 100000 in
theorem wd_161 : Cond.code ⟨"CapitalCase$Script", "add", "(II)V"⟩ prog_8_method_4_code 3 none ∈ xTB := xw 161 (rfl) (by decide +kernel)
set_option maxRecDepth 100000 in
theorem wd_258 : Cond.code ⟨"CapitalCase$Parser", "<init>", "([B)V"⟩ prog_4_method_1_code 2 none ∈ xTB := xw 258 (rfl) (by decide +kernel)
set_option maxRecDepth 100000 in
theorem wd_266 : Cond.code ⟨"CapitalCase$Tokens", "<init>", "()V"⟩ prog_9_method_1_code 1 none ∈ xTB := xw 266 (rfl) (by decide +kernel)
set_option maxRecDepth 100000 in
theorem wd_318 : Cond.code ⟨"CapitalCase$Town", "<init>", "()V"⟩ prog_10_method_1_code 1 none ∈ xTB := xw 318 (rfl) (by decide +kernel)
set_option maxRecDepth 100000 in
theorem wd_380 : Cond.code ⟨"CapitalCase$History", "<init>", "()V"⟩ prog_2_method_1_code 1 none ∈ xTB := xw 380 (rfl) (by decide +kernel)
set_option maxRecDepth 100000 in
theorem wd_399 : Cond.code ⟨"CapitalCase$Prints", "<init>", "()V"⟩ prog_7_method_1_code 1 none ∈ xTB := xw 399 (rfl) (by decide +kernel)
set_option maxRecDepth 100000 in
theorem wd_420 : Cond.code ⟨"CapitalCase$Judge", "<init>", "(LCapitalCase$Script;)V"⟩ prog_3_method_1_code 2 none ∈ xTB := xw 420 (rfl) (by decide +kernel)
set_option maxRecDepth 100000 in
theorem wd_436 : Cond.code ⟨"CapitalCase$Press", "<init>", "(LCapitalCase$Script;LCapitalCase$Judge;)V"⟩ prog_6_method_1_code 3 none ∈ xTB := xw 436 (rfl) (by decide +kernel)
set_option maxRecDepth 100000 in
theorem wd_449 : Cond.code ⟨"CapitalCase$Planner", "<init>", "(LCapitalCase$Script;LCapitalCase$Judge;)V"⟩ prog_5_method_1_code 3 none ∈ xTB := xw 449 (rfl) (by decide +kernel)
set_option maxRecDepth 100000 in
theorem wd_499 : Cond.code ⟨"CapitalCase$TwoDays", "<init>", "(LCapitalCase$Script;LCapitalCase$Judge;LCapitalCase$Press;LCapitalCase$Planner;)V"⟩ prog_12_method_1_code 5 none ∈ xTB := xw 499 (rfl) (by decide +kernel)
set_option maxRecDepth 100000 in
theorem wd_539 : Cond.code ⟨"CapitalCase$Trade", "<init>", "(LCapitalCase$Script;)V"⟩ prog_11_method_1_code 2 none ∈ xTB := xw 539 (rfl) (by decide +kernel)
set_option maxRecDepth 100000 in
theorem wd_605 : Cond.code ⟨"CapitalCase", "feed", "(IIIII)I"⟩ prog_1_method_2_code 6 (some .int) ∈ xTB := xw 605 (rfl) (by decide +kernel)
set_option maxRecDepth 100000 in
theorem wd_609 : Cond.code ⟨"CapitalCase", "append", "(I)V"⟩ prog_1_method_3_code 3 none ∈ xTB := xw 609 (rfl) (by decide +kernel)
set_option maxRecDepth 100000 in
theorem wd_613 : Cond.code ⟨"CapitalCase", "back", "(I)I"⟩ prog_1_method_4_code 2 (some .int) ∈ xTB := xw 613 (rfl) (by decide +kernel)
set_option maxRecDepth 100000 in
theorem wd_617 : Cond.code ⟨"CapitalCase", "read", "()I"⟩ prog_1_method_5_code 2 (some .int) ∈ xTB := xw 617 (rfl) (by decide +kernel)
set_option maxRecDepth 100000 in
theorem wd_621 : Cond.code ⟨"CapitalCase$Parser", "parse", "(I)I"⟩ prog_4_method_2_code 3 (some .int) ∈ xTB := xw 621 (rfl) (by decide +kernel)
set_option maxRecDepth 100000 in
theorem wd_626 : Cond.code ⟨"CapitalCase$Tokens", "scan", "([BI)V"⟩ prog_9_method_2_code 5 none ∈ xTB := xw 626 (rfl) (by decide +kernel)
set_option maxRecDepth 100000 in
theorem wd_759 : Cond.code ⟨"CapitalCase$Parser", "next", "()I"⟩ prog_4_method_3_code 1 (some .int) ∈ xTB := xw 759 (rfl) (by decide +kernel)
set_option maxRecDepth 100000 in
theorem wd_828 : Cond.code ⟨"CapitalCase$Script", "become", "(LCapitalCase$Script;)V"⟩ prog_8_method_6_code 2 none ∈ xTB := xw 828 (rfl) (by decide +kernel)
set_option maxRecDepth 100000 in
theorem wd_835 : Cond.code ⟨"CapitalCase", "beginAnew", "()V"⟩ prog_1_method_6_code 2 none ∈ xTB := xw 835 (rfl) (by decide +kernel)
set_option maxRecDepth 100000 in
theorem wd_839 : Cond.code ⟨"CapitalCase$Town", "begin", "(LCapitalCase$Script;)V"⟩ prog_10_method_2_code 2 none ∈ xTB := xw 839 (rfl) (by decide +kernel)
set_option maxRecDepth 100000 in
theorem wd_845 : Cond.code ⟨"CapitalCase", "place", "()I"⟩ prog_1_method_7_code 1 (some .int) ∈ xTB := xw 845 (rfl) (by decide +kernel)
set_option maxRecDepth 100000 in
theorem wd_849 : Cond.code ⟨"CapitalCase", "house", "(III)I"⟩ prog_1_method_12_code 5 (some .int) ∈ xTB := xw 849 (rfl) (by decide +kernel)
set_option maxRecDepth 100000 in
theorem wd_853 : Cond.code ⟨"CapitalCase", "isCell", "(II)Z"⟩ prog_1_method_9_code 3 (some .boolean) ∈ xTB := xw 853 (rfl) (by decide +kernel)
set_option maxRecDepth 100000 in
theorem wd_857 : Cond.code ⟨"CapitalCase", "isHouse", "(I)Z"⟩ prog_1_method_8_code 2 (some .boolean) ∈ xTB := xw 857 (rfl) (by decide +kernel)
set_option maxRecDepth 100000 in
theorem wd_861 : Cond.code ⟨"CapitalCase$Town", "free", "(I)I"⟩ prog_10_method_4_code 2 (some .int) ∈ xTB := xw 861 (rfl) (by decide +kernel)
set_option maxRecDepth 100000 in
theorem wd_893 : Cond.code ⟨"CapitalCase", "verse", "(II)I"⟩ prog_1_method_13_code 3 (some .int) ∈ xTB := xw 893 (rfl) (by decide +kernel)
set_option maxRecDepth 100000 in
theorem wd_897 : Cond.code ⟨"CapitalCase", "isVerse", "(I)Z"⟩ prog_1_method_10_code 2 (some .boolean) ∈ xTB := xw 897 (rfl) (by decide +kernel)
set_option maxRecDepth 100000 in
theorem wd_913 : Cond.code ⟨"CapitalCase", "wants", "(II)I"⟩ prog_1_method_15_code 3 (some .int) ∈ xTB := xw 913 (rfl) (by decide +kernel)
set_option maxRecDepth 100000 in
theorem wd_917 : Cond.code ⟨"CapitalCase", "tells", "(IIII)I"⟩ prog_1_method_16_code 5 (some .int) ∈ xTB := xw 917 (rfl) (by decide +kernel)
set_option maxRecDepth 100000 in
theorem wd_930 : Cond.code ⟨"CapitalCase", "set", "(I)Z"⟩ prog_1_method_17_code 2 (some .boolean) ∈ xTB := xw 930 (rfl) (by decide +kernel)
set_option maxRecDepth 100000 in
theorem wd_938 : Cond.code ⟨"CapitalCase$Town", "open", "(I)I"⟩ prog_10_method_7_code 2 (some .int) ∈ xTB := xw 938 (rfl) (by decide +kernel)
set_option maxRecDepth 100000 in
theorem wd_946 : Cond.code ⟨"CapitalCase$Planner", "prepare", "(LCapitalCase$Town;I)V"⟩ prog_5_method_2_code 5 none ∈ xTB := xw 946 (rfl) (by decide +kernel)
set_option maxRecDepth 100000 in
theorem wd_970 : Cond.code ⟨"CapitalCase$History", "keep", "(LCapitalCase$Town;)V"⟩ prog_2_method_2_code 3 none ∈ xTB := xw 970 (rfl) (by decide +kernel)
set_option maxRecDepth 100000 in
theorem wd_975 : Cond.code ⟨"CapitalCase$Town", "become", "(LCapitalCase$Town;)V"⟩ prog_10_method_3_code 2 none ∈ xTB := xw 975 (rfl) (by decide +kernel)
set_option maxRecDepth 100000 in
theorem wd_984 : Cond.code ⟨"CapitalCase", "clear", "(I)Z"⟩ prog_1_method_19_code 2 (some .boolean) ∈ xTB := xw 984 (rfl) (by decide +kernel)
set_option maxRecDepth 100000 in
theorem wd_992 : Cond.code ⟨"CapitalCase", "lend", "(III)Z"⟩ prog_1_method_20_code 4 (some .boolean) ∈ xTB := xw 992 (rfl) (by decide +kernel)
set_option maxRecDepth 100000 in
theorem wd_1000 : Cond.code ⟨"CapitalCase", "giveBack", "(III)Z"⟩ prog_1_method_21_code 5 (some .boolean) ∈ xTB := xw 1000 (rfl) (by decide +kernel)
set_option maxRecDepth 100000 in
theorem wd_1004 : Cond.code ⟨"CapitalCase", "days", "(I)I"⟩ prog_1_method_22_code 2 (some .int) ∈ xTB := xw 1004 (rfl) (by decide +kernel)
set_option maxRecDepth 100000 in
theorem wd_1008 : Cond.code ⟨"CapitalCase$Press", "passDays", "(LCapitalCase$Town;II)V"⟩ prog_6_method_2_code 5 none ∈ xTB := xw 1008 (rfl) (by decide +kernel)
set_option maxRecDepth 100000 in
theorem wd_1012 : Cond.code ⟨"CapitalCase$Press", "work", "(LCapitalCase$Town;)V"⟩ prog_6_method_4_code 4 none ∈ xTB := xw 1012 (rfl) (by decide +kernel)
set_option maxRecDepth 100000 in
theorem wd_1016 : Cond.code ⟨"CapitalCase$Press", "owed", "(LCapitalCase$Town;)I"⟩ prog_6_method_3_code 4 (some .int) ∈ xTB := xw 1016 (rfl) (by decide +kernel)
set_option maxRecDepth 100000 in
theorem wd_1031 : Cond.code ⟨"CapitalCase$Press", "steal", "(LCapitalCase$Town;I)V"⟩ prog_6_method_7_code 6 none ∈ xTB := xw 1031 (rfl) (by decide +kernel)
set_option maxRecDepth 100000 in
theorem wd_1035 : Cond.code ⟨"CapitalCase$Press", "thievesCome", "(II)Z"⟩ prog_6_method_6_code 3 (some .boolean) ∈ xTB := xw 1035 (rfl) (by decide +kernel)
set_option maxRecDepth 100000 in
theorem wd_1038 : Cond.code ⟨"CapitalCase$Press", "lot", "(III)I"⟩ prog_6_method_8_code 4 (some .int) ∈ xTB := xw 1038 (rfl) (by decide +kernel)
set_option maxRecDepth 100000 in
theorem wd_1041 : Cond.code ⟨"CapitalCase$Press", "mix", "(II)I"⟩ prog_6_method_9_code 3 (some .int) ∈ xTB := xw 1041 (rfl) (by decide +kernel)
set_option maxRecDepth 100000 in
theorem wd_1046 : Cond.code ⟨"CapitalCase", "undo", "()Z"⟩ prog_1_method_23_code 1 (some .boolean) ∈ xTB := xw 1046 (rfl) (by decide +kernel)
set_option maxRecDepth 100000 in
theorem wd_1050 : Cond.code ⟨"CapitalCase$History", "takeBack", "(LCapitalCase$Town;)Z"⟩ prog_2_method_3_code 4 (some .boolean) ∈ xTB := xw 1050 (rfl) (by decide +kernel)
set_option maxRecDepth 100000 in
theorem wd_1054 : Cond.code ⟨"CapitalCase", "from", "(II)I"⟩ prog_1_method_24_code 3 (some .int) ∈ xTB := xw 1054 (rfl) (by decide +kernel)
set_option maxRecDepth 100000 in
theorem wd_1059 : Cond.code ⟨"CapitalCase", "best", "(I)I"⟩ prog_1_method_25_code 2 (some .int) ∈ xTB := xw 1059 (rfl) (by decide +kernel)
set_option maxRecDepth 100000 in
theorem wd_1063 : Cond.code ⟨"CapitalCase$Planner", "seek", "(LCapitalCase$Town;)V"⟩ prog_5_method_7_code 2 none ∈ xTB := xw 1063 (rfl) (by decide +kernel)
set_option maxRecDepth 100000 in
theorem wd_1069 : Cond.code ⟨"CapitalCase$Planner", "search", "()V"⟩ prog_5_method_9_code 6 none ∈ xTB := xw 1069 (rfl) (by decide +kernel)
set_option maxRecDepth 100000 in
theorem wd_1074 : Cond.code ⟨"CapitalCase$Planner", "keepIfMore", "(II)V"⟩ prog_5_method_10_code 3 none ∈ xTB := xw 1074 (rfl) (by decide +kernel)
set_option maxRecDepth 100000 in
theorem wd_1081 : Cond.code ⟨"CapitalCase", "worth", "(II)I"⟩ prog_1_method_26_code 4 (some .int) ∈ xTB := xw 1081 (rfl) (by decide +kernel)
set_option maxRecDepth 100000 in
theorem wd_1086 : Cond.code ⟨"CapitalCase", "pillar", "(I)I"⟩ prog_1_method_27_code 5 (some .int) ∈ xTB := xw 1086 (rfl) (by decide +kernel)
set_option maxRecDepth 100000 in
theorem wd_1094 : Cond.code ⟨"CapitalCase", "twoDays", "(I)I"⟩ prog_1_method_28_code 2 (some .int) ∈ xTB := xw 1094 (rfl) (by decide +kernel)
set_option maxRecDepth 100000 in
theorem wd_1098 : Cond.code ⟨"CapitalCase$TwoDays", "seek", "(LCapitalCase$Town;)V"⟩ prog_12_method_2_code 6 none ∈ xTB := xw 1098 (rfl) (by decide +kernel)
set_option maxRecDepth 100000 in
theorem wd_1106 : Cond.code ⟨"CapitalCase$TwoDays", "total", "([II)I"⟩ prog_12_method_3_code 5 (some .int) ∈ xTB := xw 1106 (rfl) (by decide +kernel)
set_option maxRecDepth 100000 in
theorem wd_1110 : Cond.code ⟨"CapitalCase$TwoDays", "takeAll", "(I)Z"⟩ prog_12_method_4_code 3 (some .boolean) ∈ xTB := xw 1110 (rfl) (by decide +kernel)
set_option maxRecDepth 100000 in
theorem wd_1115 : Cond.code ⟨"CapitalCase$TwoDays", "giveUpAll", "(I)V"⟩ prog_12_method_5_code 3 none ∈ xTB := xw 1115 (rfl) (by decide +kernel)
set_option maxRecDepth 100000 in
theorem wd_1120 : Cond.code ⟨"CapitalCase$TwoDays", "passFirst", "(LCapitalCase$Town;I)V"⟩ prog_12_method_6_code 4 none ∈ xTB := xw 1120 (rfl) (by decide +kernel)
set_option maxRecDepth 100000 in
theorem wd_1129 : Cond.code ⟨"CapitalCase", "loans", "(II)I"⟩ prog_1_method_29_code 3 (some .int) ∈ xTB := xw 1129 (rfl) (by decide +kernel)
set_option maxRecDepth 100000 in
theorem wd_1142 : Cond.code ⟨"CapitalCase", "bargains", "(I)I"⟩ prog_1_method_30_code 2 (some .int) ∈ xTB := xw 1142 (rfl) (by decide +kernel)
set_option maxRecDepth 100000 in
theorem wd_1146 : Cond.code ⟨"CapitalCase$Trade", "seekBargains", "(LCapitalCase$Town;)V"⟩ prog_11_method_4_code 4 none ∈ xTB := xw 1146 (rfl) (by decide +kernel)
set_option maxRecDepth 100000 in
theorem wd_1164 : Cond.code ⟨"CapitalCase", "strike", "(I)I"⟩ prog_1_method_31_code 4 (some .int) ∈ xTB := xw 1164 (rfl) (by decide +kernel)
set_option maxRecDepth 100000 in
theorem wd_1172 : Cond.code ⟨"CapitalCase", "clash", "(I)I"⟩ prog_1_method_32_code 2 (some .int) ∈ xTB := xw 1172 (rfl) (by decide +kernel)
set_option maxRecDepth 100000 in
theorem wd_1176 : Cond.code ⟨"CapitalCase", "late", "()I"⟩ prog_1_method_33_code 3 (some .int) ∈ xTB := xw 1176 (rfl) (by decide +kernel)
set_option maxRecDepth 100000 in
theorem wd_1180 : Cond.code ⟨"CapitalCase", "wornOut", "(II)I"⟩ prog_1_method_34_code 3 (some .int) ∈ xTB := xw 1180 (rfl) (by decide +kernel)
set_option maxRecDepth 100000 in
theorem wd_1188 : Cond.code ⟨"CapitalCase", "then", "(IIII)I"⟩ prog_1_method_35_code 6 (some .int) ∈ xTB := xw 1188 (rfl) (by decide +kernel)
set_option maxRecDepth 100000 in
theorem wd_1192 : Cond.code ⟨"CapitalCase", "paidIn", "(I)I"⟩ prog_1_method_36_code 2 (some .int) ∈ xTB := xw 1192 (rfl) (by decide +kernel)
set_option maxRecDepth 100000 in
theorem wd_1196 : Cond.code ⟨"CapitalCase", "year", "(IIII)I"⟩ prog_1_method_37_code 7 (some .int) ∈ xTB := xw 1196 (rfl) (by decide +kernel)
set_option maxRecDepth 100000 in
theorem wd_1200 : Cond.code ⟨"CapitalCase", "tell", "(IIZ)I"⟩ prog_1_method_38_code 4 (some .int) ∈ xTB := xw 1200 (rfl) (by decide +kernel)
set_option maxRecDepth 100000 in
theorem wd_1204 : Cond.code ⟨"CapitalCase$Prints", "note", "(IIZ)I"⟩ prog_7_method_2_code 4 (some .int) ∈ xTB := xw 1204 (rfl) (by decide +kernel)
set_option maxRecDepth 100000 in
theorem wd_1208 : Cond.code ⟨"CapitalCase", "forget", "()I"⟩ prog_1_method_39_code 2 (some .int) ∈ xTB := xw 1208 (rfl) (by decide +kernel)
set_option maxRecDepth 100000 in
theorem wd_1212 : Cond.code ⟨"CapitalCase", "whose", "(II)I"⟩ prog_1_method_40_code 4 (some .int) ∈ xTB := xw 1212 (rfl) (by decide +kernel)
set_option maxRecDepth 100000 in
theorem wd_1216 : Cond.code ⟨"CapitalCase$Prints", "left", "(LCapitalCase$Town;II)I"⟩ prog_7_method_3_code 8 (some .int) ∈ xTB := xw 1216 (rfl) (by decide +kernel)
set_option maxRecDepth 100000 in
theorem wd_1219 : Cond.code ⟨"java/lang/Integer", "bitCount", "(I)I"⟩ prog_16_method_49_code 1 (some .int) ∈ xTB := xw 1219 (rfl) (by decide +kernel)
set_option maxRecDepth 100000 in
theorem wd_1226 : Cond.code ⟨"CapitalCase", "ask", "(II)I"⟩ prog_1_method_41_code 3 (some .int) ∈ xTB := xw 1226 (rfl) (by decide +kernel)
set_option maxRecDepth 100000 in
theorem wd_1230 : Cond.code ⟨"CapitalCase$Prints", "letterToAsk", "(LCapitalCase$Town;II)I"⟩ prog_7_method_4_code 9 (some .int) ∈ xTB := xw 1230 (rfl) (by decide +kernel)
set_option maxRecDepth 100000 in
theorem wd_1236 : Cond.code ⟨"CapitalCase", "hold", "(I)Z"⟩ prog_1_method_42_code 2 (some .boolean) ∈ xTB := xw 1236 (rfl) (by decide +kernel)
set_option maxRecDepth 100000 in
theorem wd_1240 : Cond.code ⟨"CapitalCase", "restore", "(I)Z"⟩ prog_1_method_43_code 2 (some .boolean) ∈ xTB := xw 1240 (rfl) (by decide +kernel)
set_option maxRecDepth 100000 in
theorem wd_1244 : Cond.code ⟨"CapitalCase", "count", "(I)I"⟩ prog_1_method_44_code 2 (some .int) ∈ xTB := xw 1244 (rfl) (by decide +kernel)
set_option maxRecDepth 100000 in
theorem wd_1247 : Cond.code ⟨"CapitalCase", "sum", "([I)I"⟩ prog_1_method_45_code 6 (some .int) ∈ xTB := xw 1247 (rfl) (by decide +kernel)
set_option maxRecDepth 100000 in
theorem wd_1251 : Cond.code ⟨"CapitalCase", "heldSlots", "()I"⟩ prog_1_method_46_code 3 (some .int) ∈ xTB := xw 1251 (rfl) (by decide +kernel)
set_option maxRecDepth 100000 in
theorem wd_1256 : Cond.code ⟨"CapitalCase", "settable", "()I"⟩ prog_1_method_47_code 3 (some .int) ∈ xTB := xw 1256 (rfl) (by decide +kernel)
set_option maxRecDepth 100000 in
theorem wd_1261 : Cond.code ⟨"CapitalCaseModel", "<init>", "()V"⟩ prog_14_method_2_code 1 none ∈ xTB := xw 1261 (rfl) (by decide +kernel)
set_option maxRecDepth 100000 in
theorem wd_1266 : Cond.code ⟨"CapitalCaseModel", "plain", "(I)V"⟩ prog_14_method_19_code 3 none ∈ xTB := xw 1266 (rfl) (by decide +kernel)
set_option maxRecDepth 100000 in
theorem wd_1269 : Cond.code ⟨"CapitalCaseModel", "word", "(IIIIIII)J"⟩ prog_14_method_10_code 7 (some .long) ∈ xTB := xw 1269 (rfl) (by decide +kernel)
set_option maxRecDepth 100000 in
theorem wd_1272 : Cond.code ⟨"CapitalCaseModel", "appends", "(JI)J"⟩ prog_14_method_9_code 3 (some .long) ∈ xTB := xw 1272 (rfl) (by decide +kernel)
set_option maxRecDepth 100000 in
theorem wd_1277 : Cond.code ⟨"CapitalCaseModel", "begins", "()V"⟩ prog_14_method_46_code 2 none ∈ xTB := xw 1277 (rfl) (by decide +kernel)
set_option maxRecDepth 100000 in
theorem wd_1281 : Cond.code ⟨"CapitalCaseModel", "keepsRow", "()V"⟩ prog_14_method_47_code 2 none ∈ xTB := xw 1281 (rfl) (by decide +kernel)
set_option maxRecDepth 100000 in
theorem wd_1496 : Cond.code ⟨"CapitalCaseModel", "feed", "(IIIII)I"⟩ prog_14_method_3_code 6 (some .int) ∈ xTB := xw 1496 (rfl) (by decide +kernel)
set_option maxRecDepth 100000 in
theorem wd_1500 : Cond.code ⟨"CapitalCaseModel", "put", "(I)V"⟩ prog_14_method_4_code 3 none ∈ xTB := xw 1500 (rfl) (by decide +kernel)
set_option maxRecDepth 100000 in
theorem wd_1504 : Cond.code ⟨"CapitalCaseModel", "back", "(I)I"⟩ prog_14_method_5_code 2 (some .int) ∈ xTB := xw 1504 (rfl) (by decide +kernel)
set_option maxRecDepth 100000 in
theorem wd_1508 : Cond.code ⟨"CapitalCaseModel", "read", "()I"⟩ prog_14_method_20_code 2 (some .int) ∈ xTB := xw 1508 (rfl) (by decide +kernel)
set_option maxRecDepth 100000 in
theorem wd_1512 : Cond.code ⟨"CapitalCaseModel", "cut", "()V"⟩ prog_14_method_12_code 8 none ∈ xTB := xw 1512 (rfl) (by decide +kernel)
set_option maxRecDepth 100000 in
theorem wd_1516 : Cond.code ⟨"CapitalCaseModel", "byteAt", "(I)I"⟩ prog_14_method_6_code 2 (some .int) ∈ xTB := xw 1516 (rfl) (by decide +kernel)
set_option maxRecDepth 100000 in
theorem wd_1520 : Cond.code ⟨"CapitalCaseModel", "token", "(IIIJ)V"⟩ prog_14_method_11_code 6 none ∈ xTB := xw 1520 (rfl) (by decide +kernel)
set_option maxRecDepth 100000 in
theorem wd_1534 : Cond.code ⟨"CapitalCaseModel", "is", "(I)Z"⟩ prog_14_method_14_code 2 (some .boolean) ∈ xTB := xw 1534 (rfl) (by decide +kernel)
set_option maxRecDepth 100000 in
theorem wd_1620 : Cond.code ⟨"CapitalCaseModel", "place", "()I"⟩ prog_14_method_21_code 1 (some .int) ∈ xTB := xw 1620 (rfl) (by decide +kernel)
set_option maxRecDepth 100000 in
theorem wd_1624 : Cond.code ⟨"CapitalCaseModel", "house", "(III)I"⟩ prog_14_method_72_code 5 (some .int) ∈ xTB := xw 1624 (rfl) (by decide +kernel)
set_option maxRecDepth 100000 in
theorem wd_1628 : Cond.code ⟨"CapitalCaseModel", "isHouse", "(I)Z"⟩ prog_14_method_43_code 2 (some .boolean) ∈ xTB := xw 1628 (rfl) (by decide +kernel)
set_option maxRecDepth 100000 in
theorem wd_1631 : Cond.code ⟨"CapitalCaseModel", "in", "(III)Z"⟩ prog_14_method_40_code 3 (some .boolean) ∈ xTB := xw 1631 (rfl) (by decide +kernel)
set_option maxRecDepth 100000 in
theorem wd_1634 : Cond.code ⟨"CapitalCaseModel", "isSort", "(I)Z"⟩ prog_14_method_44_code 1 (some .boolean) ∈ xTB := xw 1634 (rfl) (by decide +kernel)
set_option maxRecDepth 100000 in
theorem wd_1638 : Cond.code ⟨"CapitalCaseModel", "copies", "()V"⟩ prog_14_method_48_code 2 none ∈ xTB := xw 1638 (rfl) (by decide +kernel)
set_option maxRecDepth 100000 in
theorem wd_1677 : Cond.code ⟨"CapitalCaseModel", "verse", "(II)I"⟩ prog_14_method_73_code 3 (some .int) ∈ xTB := xw 1677 (rfl) (by decide +kernel)
set_option maxRecDepth 100000 in
theorem wd_1681 : Cond.code ⟨"CapitalCaseModel", "isVerse", "(I)Z"⟩ prog_14_method_45_code 2 (some .boolean) ∈ xTB := xw 1681 (rfl) (by decide +kernel)
set_option maxRecDepth 100000 in
theorem wd_1693 : Cond.code ⟨"CapitalCaseModel", "wants", "(II)I"⟩ prog_14_method_74_code 3 (some .int) ∈ xTB := xw 1693 (rfl) (by decide +kernel)
set_option maxRecDepth 100000 in
theorem wd_1697 : Cond.code ⟨"CapitalCaseModel", "tells", "(IIII)I"⟩ prog_14_method_75_code 5 (some .int) ∈ xTB := xw 1697 (rfl) (by decide +kernel)
set_option maxRecDepth 100000 in
theorem wd_1710 : Cond.code ⟨"CapitalCaseModel", "set", "(I)Z"⟩ prog_14_method_77_code 2 (some .boolean) ∈ xTB := xw 1710 (rfl) (by decide +kernel)
set_option maxRecDepth 100000 in
theorem wd_1730 : Cond.code ⟨"CapitalCaseModel", "records", "()V"⟩ prog_14_method_76_code 2 none ∈ xTB := xw 1730 (rfl) (by decide +kernel)
set_option maxRecDepth 100000 in
theorem wd_1734 : Cond.code ⟨"CapitalCaseModel", "clear", "(I)Z"⟩ prog_14_method_78_code 2 (some .boolean) ∈ xTB := xw 1734 (rfl) (by decide +kernel)
set_option maxRecDepth 100000 in
theorem wd_1738 : Cond.code ⟨"CapitalCaseModel", "lend", "(III)Z"⟩ prog_14_method_80_code 4 (some .boolean) ∈ xTB := xw 1738 (rfl) (by decide +kernel)
set_option maxRecDepth 100000 in
theorem wd_1742 : Cond.code ⟨"CapitalCaseModel", "areTwo", "(III)Z"⟩ prog_14_method_79_code 4 (some .boolean) ∈ xTB := xw 1742 (rfl) (by decide +kernel)
set_option maxRecDepth 100000 in
theorem wd_1746 : Cond.code ⟨"CapitalCaseModel", "giveBack", "(III)Z"⟩ prog_14_method_81_code 5 (some .boolean) ∈ xTB := xw 1746 (rfl) (by decide +kernel)
set_option maxRecDepth 100000 in
theorem wd_1750 : Cond.code ⟨"CapitalCaseModel", "days", "(I)I"⟩ prog_14_method_82_code 2 (some .int) ∈ xTB := xw 1750 (rfl) (by decide +kernel)
set_option maxRecDepth 100000 in
theorem wd_1753 : Cond.code ⟨"CapitalCaseModel", "isLong", "(I)Z"⟩ prog_14_method_101_code 1 (some .boolean) ∈ xTB := xw 1753 (rfl) (by decide +kernel)
set_option maxRecDepth 100000 in
theorem wd_1757 : Cond.code ⟨"CapitalCaseModel", "goes", "(I)V"⟩ prog_14_method_71_code 3 none ∈ xTB := xw 1757 (rfl) (by decide +kernel)
set_option maxRecDepth 100000 in
theorem wd_1761 : Cond.code ⟨"CapitalCaseModel", "dayGoes", "()V"⟩ prog_14_method_70_code 2 none ∈ xTB := xw 1761 (rfl) (by decide +kernel)
set_option maxRecDepth 100000 in
theorem wd_1769 : Cond.code ⟨"CapitalCaseModel", "areThieves", "()Z"⟩ prog_14_method_51_code 1 (some .boolean) ∈ xTB := xw 1769 (rfl) (by decide +kernel)
set_option maxRecDepth 100000 in
theorem wd_1773 : Cond.code ⟨"CapitalCaseModel", "lotOf", "(II)I"⟩ prog_14_method_50_code 3 (some .int) ∈ xTB := xw 1773 (rfl) (by decide +kernel)
set_option maxRecDepth 100000 in
theorem wd_1776 : Cond.code ⟨"CapitalCaseModel", "mixed", "(II)I"⟩ prog_14_method_49_code 3 (some .int) ∈ xTB := xw 1776 (rfl) (by decide +kernel)
set_option maxRecDepth 100000 in
theorem wd_1785 : Cond.code ⟨"CapitalCaseModel", "undo", "()Z"⟩ prog_14_method_83_code 2 (some .boolean) ∈ xTB := xw 1785 (rfl) (by decide +kernel)
set_option maxRecDepth 100000 in
theorem wd_1789 : Cond.code ⟨"CapitalCaseModel", "from", "(II)I"⟩ prog_14_method_84_code 3 (some .int) ∈ xTB := xw 1789 (rfl) (by decide +kernel)
set_option maxRecDepth 100000 in
theorem wd_1793 : Cond.code ⟨"CapitalCaseModel", "best", "(I)I"⟩ prog_14_method_88_code 2 (some .int) ∈ xTB := xw 1793 (rfl) (by decide +kernel)
set_option maxRecDepth 100000 in
theorem wd_1797 : Cond.code ⟨"CapitalCaseModel", "findsBest", "()V"⟩ prog_14_method_87_code 5 none ∈ xTB := xw 1797 (rfl) (by decide +kernel)
set_option maxRecDepth 100000 in
theorem wd_1801 : Cond.code ⟨"CapitalCaseModel", "openBits", "()I"⟩ prog_14_method_67_code 3 (some .int) ∈ xTB := xw 1801 (rfl) (by decide +kernel)
set_option maxRecDepth 100000 in
theorem wd_1805 : Cond.code ⟨"CapitalCaseModel", "keepsAhead", "()V"⟩ prog_14_method_85_code 2 none ∈ xTB := xw 1805 (rfl) (by decide +kernel)
set_option maxRecDepth 100000 in
theorem wd_1813 : Cond.code ⟨"CapitalCaseModel", "worth", "(II)I"⟩ prog_14_method_89_code 4 (some .int) ∈ xTB := xw 1813 (rfl) (by decide +kernel)
set_option maxRecDepth 100000 in
theorem wd_1817 : Cond.code ⟨"CapitalCaseModel", "pillar", "(I)I"⟩ prog_14_method_90_code 5 (some .int) ∈ xTB := xw 1817 (rfl) (by decide +kernel)
set_option maxRecDepth 100000 in
theorem wd_1821 : Cond.code ⟨"CapitalCaseModel", "twoDays", "(I)I"⟩ prog_14_method_92_code 7 (some .int) ∈ xTB := xw 1821 (rfl) (by decide +kernel)
set_option maxRecDepth 100000 in
theorem wd_1825 : Cond.code ⟨"CapitalCaseModel", "firstDay", "(I)I"⟩ prog_14_method_91_code 3 (some .int) ∈ xTB := xw 1825 (rfl) (by decide +kernel)
set_option maxRecDepth 100000 in
theorem wd_1829 : Cond.code ⟨"CapitalCaseModel", "loans", "(II)I"⟩ prog_14_method_94_code 8 (some .int) ∈ xTB := xw 1829 (rfl) (by decide +kernel)
set_option maxRecDepth 100000 in
theorem wd_1837 : Cond.code ⟨"CapitalCaseModel", "bargains", "(I)I"⟩ prog_14_method_97_code 7 (some .int) ∈ xTB := xw 1837 (rfl) (by decide +kernel)
set_option maxRecDepth 100000 in
theorem wd_1849 : Cond.code ⟨"CapitalCaseModel", "strike", "(I)I"⟩ prog_14_method_98_code 5 (some .int) ∈ xTB := xw 1849 (rfl) (by decide +kernel)
set_option maxRecDepth 100000 in
theorem wd_1853 : Cond.code ⟨"CapitalCaseModel", "clash", "(I)I"⟩ prog_14_method_99_code 6 (some .int) ∈ xTB := xw 1853 (rfl) (by decide +kernel)
set_option maxRecDepth 100000 in
theorem wd_1857 : Cond.code ⟨"CapitalCaseModel", "late", "()I"⟩ prog_14_method_100_code 3 (some .int) ∈ xTB := xw 1857 (rfl) (by decide +kernel)
set_option maxRecDepth 100000 in
theorem wd_1861 : Cond.code ⟨"CapitalCaseModel", "wornOut", "(II)I"⟩ prog_14_method_102_code 4 (some .int) ∈ xTB := xw 1861 (rfl) (by decide +kernel)
set_option maxRecDepth 100000 in
theorem wd_1865 : Cond.code ⟨"CapitalCaseModel", "then", "(IIII)I"⟩ prog_14_method_103_code 5 (some .int) ∈ xTB := xw 1865 (rfl) (by decide +kernel)
set_option maxRecDepth 100000 in
theorem wd_1869 : Cond.code ⟨"CapitalCaseModel", "paidIn", "(I)I"⟩ prog_14_method_104_code 2 (some .int) ∈ xTB := xw 1869 (rfl) (by decide +kernel)
set_option maxRecDepth 100000 in
theorem wd_1873 : Cond.code ⟨"CapitalCaseModel", "year", "(IIII)I"⟩ prog_14_method_105_code 7 (some .int) ∈ xTB := xw 1873 (rfl) (by decide +kernel)
set_option maxRecDepth 100000 in
theorem wd_1877 : Cond.code ⟨"CapitalCaseModel", "tell", "(IIZ)I"⟩ prog_14_method_106_code 4 (some .int) ∈ xTB := xw 1877 (rfl) (by decide +kernel)
set_option maxRecDepth 100000 in
theorem wd_1881 : Cond.code ⟨"CapitalCaseModel", "forget", "()I"⟩ prog_14_method_107_code 2 (some .int) ∈ xTB := xw 1881 (rfl) (by decide +kernel)
set_option maxRecDepth 100000 in
theorem wd_1885 : Cond.code ⟨"CapitalCaseModel", "whose", "(II)I"⟩ prog_14_method_109_code 4 (some .int) ∈ xTB := xw 1885 (rfl) (by decide +kernel)
set_option maxRecDepth 100000 in
theorem wd_1889 : Cond.code ⟨"CapitalCaseModel", "whoseBits", "(I)I"⟩ prog_14_method_108_code 6 (some .int) ∈ xTB := xw 1889 (rfl) (by decide +kernel)
set_option maxRecDepth 100000 in
theorem wd_1892 : Cond.code ⟨"CapitalCaseModel", "bits", "(I)I"⟩ prog_14_method_42_code 3 (some .int) ∈ xTB := xw 1892 (rfl) (by decide +kernel)
set_option maxRecDepth 100000 in
theorem wd_1896 : Cond.code ⟨"CapitalCaseModel", "ask", "(II)I"⟩ prog_14_method_110_code 9 (some .int) ∈ xTB := xw 1896 (rfl) (by decide +kernel)
set_option maxRecDepth 100000 in
theorem wd_1900 : Cond.code ⟨"CapitalCaseModel", "hold", "(I)Z"⟩ prog_14_method_111_code 3 (some .boolean) ∈ xTB := xw 1900 (rfl) (by decide +kernel)
set_option maxRecDepth 100000 in
theorem wd_1904 : Cond.code ⟨"CapitalCaseModel", "restore", "(I)Z"⟩ prog_14_method_112_code 3 (some .boolean) ∈ xTB := xw 1904 (rfl) (by decide +kernel)
set_option maxRecDepth 100000 in
theorem wd_1908 : Cond.code ⟨"CapitalCaseModel", "count", "(I)I"⟩ prog_14_method_115_code 5 (some .int) ∈ xTB := xw 1908 (rfl) (by decide +kernel)
set_option maxRecDepth 100000 in
theorem wd_1912 : Cond.code ⟨"CapitalCaseModel", "versesSo", "(II)I"⟩ prog_14_method_114_code 5 (some .int) ∈ xTB := xw 1912 (rfl) (by decide +kernel)
set_option maxRecDepth 100000 in
theorem wd_1916 : Cond.code ⟨"CapitalCaseModel", "sumNow", "(II)I"⟩ prog_14_method_113_code 5 (some .int) ∈ xTB := xw 1916 (rfl) (by decide +kernel)
set_option maxRecDepth 100000 in
theorem wd_obj : Cond.code objectInit ⟨#[0xb1]⟩ 1 none ∈ xTB := xw 140 rfl (by decide +kernel)
set_option maxRecDepth 100000 in
theorem wd_max : Cond.code Lib.Math.max.name Lib.Math.max.code 2 (some .int) ∈ xTB := xw 714 rfl (by decide +kernel)
set_option maxRecDepth 100000 in
theorem wd_min : Cond.code Lib.Math.min.name Lib.Math.min.code 2 (some .int) ∈ xTB := xw 717 rfl (by decide +kernel)
noncomputable def PX : xPX := bn 78 (bn 39 (bn 19 (bn 9 (bn 4 (bn 2 (bn 1 (bl 0 ((⟨"CapitalCase$History", "<init>", "()V"⟩, prog_2_method_1_code, 1, none))) (bl 1 ((⟨"CapitalCase$History", "keep", "(LCapitalCase$Town;)V"⟩, prog_2_method_2_code, 3, none)))) (bn 3 (bl 2 ((⟨"CapitalCase$History", "takeBack", "(LCapitalCase$Town;)Z"⟩, prog_2_method_3_code, 4, (some .boolean)))) (bl 3 ((⟨"CapitalCase$Judge", "<init>", "(LCapitalCase$Script;)V"⟩, prog_3_method_1_code, 2, none))))) (bn 6 (bn 5 (bl 4 ((⟨"CapitalCase$Parser", "<init>", "([B)V"⟩, prog_4_method_1_code, 2, none))) (bl 5 ((⟨"CapitalCase$Parser", "next", "()I"⟩, prog_4_method_3_code, 1, (some .int))))) (bn 7 (bl 6 ((⟨"CapitalCase$Parser", "parse", "(I)I"⟩, prog_4_method_2_code, 3, (some .int)))) (bn 8 (bl 7 ((⟨"CapitalCase$Planner", "<init>", "(LCapitalCase$Script;LCapitalCase$Judge;)V"⟩, prog_5_method_1_code, 3, none))) (bl 8 ((⟨"CapitalCase$Planner", "keepIfMore", "(II)V"⟩, prog_5_method_10_code, 3, none))))))) (bn 14 (bn 11 (bn 10 (bl 9 ((⟨"CapitalCase$Planner", "prepare", "(LCapitalCase$Town;I)V"⟩, prog_5_method_2_code, 5, none))) (bl 10 ((⟨"CapitalCase$Planner", "search", "()V"⟩, prog_5_method_9_code, 6, none)))) (bn 12 (bl 11 ((⟨"CapitalCase$Planner", "seek", "(LCapitalCase$Town;)V"⟩, prog_5_method_7_code, 2, none))) (bn 13 (bl 12 ((⟨"CapitalCase$Press", "<init>", "(LCapitalCase$Script;LCapitalCase$Judge;)V"⟩, prog_6_method_1_code, 3, none))) (bl 13 ((⟨"CapitalCase$Press", "lot", "(III)I"⟩, prog_6_method_8_code, 4, (some .int))))))) (bn 16 (bn 15 (bl 14 ((⟨"CapitalCase$Press", "mix", "(II)I"⟩, prog_6_method_9_code, 3, (some .int)))) (bl 15 ((⟨"CapitalCase$Press", "owed", "(LCapitalCase$Town;)I"⟩, prog_6_method_3_code, 4, (some .int))))) (bn 17 (bl 16 ((⟨"CapitalCase$Press", "passDays", "(LCapitalCase$Town;II)V"⟩, prog_6_method_2_code, 5, none))) (bn 18 (bl 17 ((⟨"CapitalCase$Press", "steal", "(LCapitalCase$Town;I)V"⟩, prog_6_method_7_code, 6, none))) (bl 18 ((⟨"CapitalCase$Press", "thievesCome", "(II)Z"⟩, prog_6_method_6_code, 3, (some .boolean))))))))) (bn 29 (bn 24 (bn 21 (bn 20 (bl 19 ((⟨"CapitalCase$Press", "work", "(LCapitalCase$Town;)V"⟩, prog_6_method_4_code, 4, none))) (bl 20 ((⟨"CapitalCase$Prints", "<init>", "()V"⟩, prog_7_method_1_code, 1, none)))) (bn 22 (bl 21 ((⟨"CapitalCase$Prints", "left", "(LCapitalCase$Town;II)I"⟩, prog_7_method_3_code, 8, (some .int)))) (bn 23 (bl 22 ((⟨"CapitalCase$Prints", "letterToAsk", "(LCapitalCase$Town;II)I"⟩, prog_7_method_4_code, 9, (some .int)))) (bl 23 ((⟨"CapitalCase$Prints", "note", "(IIZ)I"⟩, prog_7_method_2_code, 4, (some .int))))))) (bn 26 (bn 25 (bl 24 ((⟨"CapitalCase$Script", "<init>", "()V"⟩, prog_8_method_1_code, 1, none))) (bl 25 ((⟨"CapitalCase$Script", "add", "(II)V"⟩, prog_8_method_4_code, 3, none)))) (bn 27 (bl 26 ((⟨"CapitalCase$Script", "become", "(LCapitalCase$Script;)V"⟩, prog_8_method_6_code, 2, none))) (bn 28 (bl 27 ((⟨"CapitalCase$Script", "layDown", "(III)V"⟩, prog_8_method_3_code, 4, none))) (bl 28 ((⟨"CapitalCase$Script", "wipe", "()V"⟩, prog_8_method_2_code, 1, none))))))) (bn 34 (bn 31 (bn 30 (bl 29 ((⟨"CapitalCase$Tokens", "<init>", "()V"⟩, prog_9_method_1_code, 1, none))) (bl 30 ((⟨"CapitalCase$Tokens", "scan", "([BI)V"⟩, prog_9_method_2_code, 5, none)))) (bn 32 (bl 31 ((⟨"CapitalCase$Town", "<init>", "()V"⟩, prog_10_method_1_code, 1, none))) (bn 33 (bl 32 ((⟨"CapitalCase$Town", "become", "(LCapitalCase$Town;)V"⟩, prog_10_method_3_code, 2, none))) (bl 33 ((⟨"CapitalCase$Town", "begin", "(LCapitalCase$Script;)V"⟩, prog_10_method_2_code, 2, none)))))) (bn 36 (bn 35 (bl 34 ((⟨"CapitalCase$Town", "free", "(I)I"⟩, prog_10_method_4_code, 2, (some .int)))) (bl 35 ((⟨"CapitalCase$Town", "open", "(I)I"⟩, prog_10_method_7_code, 2, (some .int))))) (bn 37 (bl 36 ((⟨"CapitalCase$Trade", "<init>", "(LCapitalCase$Script;)V"⟩, prog_11_method_1_code, 2, none))) (bn 38 (bl 37 ((⟨"CapitalCase$Trade", "seekBargains", "(LCapitalCase$Town;)V"⟩, prog_11_method_4_code, 4, none))) (bl 38 ((⟨"CapitalCase$TwoDays", "<init>", "(LCapitalCase$Script;LCapitalCase$Judge;LCapitalCase$Press;LCapitalCase$Planner;)V"⟩, prog_12_method_1_code, 5, none))))))))) (bn 58 (bn 48 (bn 43 (bn 41 (bn 40 (bl 39 ((⟨"CapitalCase$TwoDays", "giveUpAll", "(I)V"⟩, prog_12_method_5_code, 3, none))) (bl 40 ((⟨"CapitalCase$TwoDays", "passFirst", "(LCapitalCase$Town;I)V"⟩, prog_12_method_6_code, 4, none)))) (bn 42 (bl 41 ((⟨"CapitalCase$TwoDays", "seek", "(LCapitalCase$Town;)V"⟩, prog_12_method_2_code, 6, none))) (bl 42 ((⟨"CapitalCase$TwoDays", "takeAll", "(I)Z"⟩, prog_12_method_4_code, 3, (some .boolean)))))) (bn 45 (bn 44 (bl 43 ((⟨"CapitalCase$TwoDays", "total", "([II)I"⟩, prog_12_method_3_code, 5, (some .int)))) (bl 44 ((⟨"CapitalCase", "<init>", "()V"⟩, prog_1_method_1_code, 1, none)))) (bn 46 (bl 45 ((⟨"CapitalCase", "append", "(I)V"⟩, prog_1_method_3_code, 3, none))) (bn 47 (bl 46 ((⟨"CapitalCase", "ask", "(II)I"⟩, prog_1_method_41_code, 3, (some .int)))) (bl 47 ((⟨"CapitalCase", "back", "(I)I"⟩, prog_1_method_4_code, 2, (some .int)))))))) (bn 53 (bn 50 (bn 49 (bl 48 ((⟨"CapitalCase", "bargains", "(I)I"⟩, prog_1_method_30_code, 2, (some .int)))) (bl 49 ((⟨"CapitalCase", "beginAnew", "()V"⟩, prog_1_method_6_code, 2, none)))) (bn 51 (bl 50 ((⟨"CapitalCase", "best", "(I)I"⟩, prog_1_method_25_code, 2, (some .int)))) (bn 52 (bl 51 ((⟨"CapitalCase", "clash", "(I)I"⟩, prog_1_method_32_code, 2, (some .int)))) (bl 52 ((⟨"CapitalCase", "clear", "(I)Z"⟩, prog_1_method_19_code, 2, (some .boolean))))))) (bn 55 (bn 54 (bl 53 ((⟨"CapitalCase", "count", "(I)I"⟩, prog_1_method_44_code, 2, (some .int)))) (bl 54 ((⟨"CapitalCase", "days", "(I)I"⟩, prog_1_method_22_code, 2, (some .int))))) (bn 56 (bl 55 ((⟨"CapitalCase", "feed", "(IIIII)I"⟩, prog_1_method_2_code, 6, (some .int)))) (bn 57 (bl 56 ((⟨"CapitalCase", "forget", "()I"⟩, prog_1_method_39_code, 2, (some .int)))) (bl 57 ((⟨"CapitalCase", "from", "(II)I"⟩, prog_1_method_24_code, 3, (some .int))))))))) (bn 68 (bn 63 (bn 60 (bn 59 (bl 58 ((⟨"CapitalCase", "giveBack", "(III)Z"⟩, prog_1_method_21_code, 5, (some .boolean)))) (bl 59 ((⟨"CapitalCase", "heldSlots", "()I"⟩, prog_1_method_46_code, 3, (some .int))))) (bn 61 (bl 60 ((⟨"CapitalCase", "hold", "(I)Z"⟩, prog_1_method_42_code, 2, (some .boolean)))) (bn 62 (bl 61 ((⟨"CapitalCase", "house", "(III)I"⟩, prog_1_method_12_code, 5, (some .int)))) (bl 62 ((⟨"CapitalCase", "isCell", "(II)Z"⟩, prog_1_method_9_code, 3, (some .boolean))))))) (bn 65 (bn 64 (bl 63 ((⟨"CapitalCase", "isHouse", "(I)Z"⟩, prog_1_method_8_code, 2, (some .boolean)))) (bl 64 ((⟨"CapitalCase", "isVerse", "(I)Z"⟩, prog_1_method_10_code, 2, (some .boolean))))) (bn 66 (bl 65 ((⟨"CapitalCase", "late", "()I"⟩, prog_1_method_33_code, 3, (some .int)))) (bn 67 (bl 66 ((⟨"CapitalCase", "lend", "(III)Z"⟩, prog_1_method_20_code, 4, (some .boolean)))) (bl 67 ((⟨"CapitalCase", "loans", "(II)I"⟩, prog_1_method_29_code, 3, (some .int)))))))) (bn 73 (bn 70 (bn 69 (bl 68 ((⟨"CapitalCase", "paidIn", "(I)I"⟩, prog_1_method_36_code, 2, (some .int)))) (bl 69 ((⟨"CapitalCase", "pillar", "(I)I"⟩, prog_1_method_27_code, 5, (some .int))))) (bn 71 (bl 70 ((⟨"CapitalCase", "place", "()I"⟩, prog_1_method_7_code, 1, (some .int)))) (bn 72 (bl 71 ((⟨"CapitalCase", "read", "()I"⟩, prog_1_method_5_code, 2, (some .int)))) (bl 72 ((⟨"CapitalCase", "restore", "(I)Z"⟩, prog_1_method_43_code, 2, (some .boolean))))))) (bn 75 (bn 74 (bl 73 ((⟨"CapitalCase", "set", "(I)Z"⟩, prog_1_method_17_code, 2, (some .boolean)))) (bl 74 ((⟨"CapitalCase", "settable", "()I"⟩, prog_1_method_47_code, 3, (some .int))))) (bn 76 (bl 75 ((⟨"CapitalCase", "strike", "(I)I"⟩, prog_1_method_31_code, 4, (some .int)))) (bn 77 (bl 76 ((⟨"CapitalCase", "sum", "([I)I"⟩, prog_1_method_45_code, 6, (some .int)))) (bl 77 ((⟨"CapitalCase", "tell", "(IIZ)I"⟩, prog_1_method_38_code, 4, (some .int))))))))))) (bn 117 (bn 97 (bn 87 (bn 82 (bn 80 (bn 79 (bl 78 ((⟨"CapitalCase", "tells", "(IIII)I"⟩, prog_1_method_16_code, 5, (some .int)))) (bl 79 ((⟨"CapitalCase", "then", "(IIII)I"⟩, prog_1_method_35_code, 6, (some .int))))) (bn 81 (bl 80 ((⟨"CapitalCase", "twoDays", "(I)I"⟩, prog_1_method_28_code, 2, (some .int)))) (bl 81 ((⟨"CapitalCase", "undo", "()Z"⟩, prog_1_method_23_code, 1, (some .boolean)))))) (bn 84 (bn 83 (bl 82 ((⟨"CapitalCase", "verse", "(II)I"⟩, prog_1_method_13_code, 3, (some .int)))) (bl 83 ((⟨"CapitalCase", "wants", "(II)I"⟩, prog_1_method_15_code, 3, (some .int))))) (bn 85 (bl 84 ((⟨"CapitalCase", "whose", "(II)I"⟩, prog_1_method_40_code, 4, (some .int)))) (bn 86 (bl 85 ((⟨"CapitalCase", "wornOut", "(II)I"⟩, prog_1_method_34_code, 3, (some .int)))) (bl 86 ((⟨"CapitalCase", "worth", "(II)I"⟩, prog_1_method_26_code, 4, (some .int)))))))) (bn 92 (bn 89 (bn 88 (bl 87 ((⟨"CapitalCase", "year", "(IIII)I"⟩, prog_1_method_37_code, 7, (some .int)))) (bl 88 ((⟨"CapitalCaseModel", "<init>", "()V"⟩, prog_14_method_2_code, 1, none)))) (bn 90 (bl 89 ((⟨"CapitalCaseModel", "appends", "(JI)J"⟩, prog_14_method_9_code, 3, (some .long)))) (bn 91 (bl 90 ((⟨"CapitalCaseModel", "areThieves", "()Z"⟩, prog_14_method_51_code, 1, (some .boolean)))) (bl 91 ((⟨"CapitalCaseModel", "areTwo", "(III)Z"⟩, prog_14_method_79_code, 4, (some .boolean))))))) (bn 94 (bn 93 (bl 92 ((⟨"CapitalCaseModel", "ask", "(II)I"⟩, prog_14_method_110_code, 9, (some .int)))) (bl 93 ((⟨"CapitalCaseModel", "back", "(I)I"⟩, prog_14_method_5_code, 2, (some .int))))) (bn 95 (bl 94 ((⟨"CapitalCaseModel", "bargains", "(I)I"⟩, prog_14_method_97_code, 7, (some .int)))) (bn 96 (bl 95 ((⟨"CapitalCaseModel", "begins", "()V"⟩, prog_14_method_46_code, 2, none))) (bl 96 ((⟨"CapitalCaseModel", "best", "(I)I"⟩, prog_14_method_88_code, 2, (some .int))))))))) (bn 107 (bn 102 (bn 99 (bn 98 (bl 97 ((⟨"CapitalCaseModel", "bits", "(I)I"⟩, prog_14_method_42_code, 3, (some .int)))) (bl 98 ((⟨"CapitalCaseModel", "byteAt", "(I)I"⟩, prog_14_method_6_code, 2, (some .int))))) (bn 100 (bl 99 ((⟨"CapitalCaseModel", "clash", "(I)I"⟩, prog_14_method_99_code, 6, (some .int)))) (bn 101 (bl 100 ((⟨"CapitalCaseModel", "clear", "(I)Z"⟩, prog_14_method_78_code, 2, (some .boolean)))) (bl 101 ((⟨"CapitalCaseModel", "copies", "()V"⟩, prog_14_method_48_code, 2, none)))))) (bn 104 (bn 103 (bl 102 ((⟨"CapitalCaseModel", "count", "(I)I"⟩, prog_14_method_115_code, 5, (some .int)))) (bl 103 ((⟨"CapitalCaseModel", "cut", "()V"⟩, prog_14_method_12_code, 8, none)))) (bn 105 (bl 104 ((⟨"CapitalCaseModel", "dayGoes", "()V"⟩, prog_14_method_70_code, 2, none))) (bn 106 (bl 105 ((⟨"CapitalCaseModel", "days", "(I)I"⟩, prog_14_method_82_code, 2, (some .int)))) (bl 106 ((⟨"CapitalCaseModel", "feed", "(IIIII)I"⟩, prog_14_method_3_code, 6, (some .int)))))))) (bn 112 (bn 109 (bn 108 (bl 107 ((⟨"CapitalCaseModel", "findsBest", "()V"⟩, prog_14_method_87_code, 5, none))) (bl 108 ((⟨"CapitalCaseModel", "firstDay", "(I)I"⟩, prog_14_method_91_code, 3, (some .int))))) (bn 110 (bl 109 ((⟨"CapitalCaseModel", "forget", "()I"⟩, prog_14_method_107_code, 2, (some .int)))) (bn 111 (bl 110 ((⟨"CapitalCaseModel", "from", "(II)I"⟩, prog_14_method_84_code, 3, (some .int)))) (bl 111 ((⟨"CapitalCaseModel", "giveBack", "(III)Z"⟩, prog_14_method_81_code, 5, (some .boolean))))))) (bn 114 (bn 113 (bl 112 ((⟨"CapitalCaseModel", "goes", "(I)V"⟩, prog_14_method_71_code, 3, none))) (bl 113 ((⟨"CapitalCaseModel", "hold", "(I)Z"⟩, prog_14_method_111_code, 3, (some .boolean))))) (bn 115 (bl 114 ((⟨"CapitalCaseModel", "house", "(III)I"⟩, prog_14_method_72_code, 5, (some .int)))) (bn 116 (bl 115 ((⟨"CapitalCaseModel", "in", "(III)Z"⟩, prog_14_method_40_code, 3, (some .boolean)))) (bl 116 ((⟨"CapitalCaseModel", "is", "(I)Z"⟩, prog_14_method_14_code, 2, (some .boolean)))))))))) (bn 137 (bn 127 (bn 122 (bn 119 (bn 118 (bl 117 ((⟨"CapitalCaseModel", "isHouse", "(I)Z"⟩, prog_14_method_43_code, 2, (some .boolean)))) (bl 118 ((⟨"CapitalCaseModel", "isLong", "(I)Z"⟩, prog_14_method_101_code, 1, (some .boolean))))) (bn 120 (bl 119 ((⟨"CapitalCaseModel", "isSort", "(I)Z"⟩, prog_14_method_44_code, 1, (some .boolean)))) (bn 121 (bl 120 ((⟨"CapitalCaseModel", "isVerse", "(I)Z"⟩, prog_14_method_45_code, 2, (some .boolean)))) (bl 121 ((⟨"CapitalCaseModel", "keepsAhead", "()V"⟩, prog_14_method_85_code, 2, none)))))) (bn 124 (bn 123 (bl 122 ((⟨"CapitalCaseModel", "keepsRow", "()V"⟩, prog_14_method_47_code, 2, none))) (bl 123 ((⟨"CapitalCaseModel", "late", "()I"⟩, prog_14_method_100_code, 3, (some .int))))) (bn 125 (bl 124 ((⟨"CapitalCaseModel", "lend", "(III)Z"⟩, prog_14_method_80_code, 4, (some .boolean)))) (bn 126 (bl 125 ((⟨"CapitalCaseModel", "loans", "(II)I"⟩, prog_14_method_94_code, 8, (some .int)))) (bl 126 ((⟨"CapitalCaseModel", "lotOf", "(II)I"⟩, prog_14_method_50_code, 3, (some .int)))))))) (bn 132 (bn 129 (bn 128 (bl 127 ((⟨"CapitalCaseModel", "mixed", "(II)I"⟩, prog_14_method_49_code, 3, (some .int)))) (bl 128 ((⟨"CapitalCaseModel", "openBits", "()I"⟩, prog_14_method_67_code, 3, (some .int))))) (bn 130 (bl 129 ((⟨"CapitalCaseModel", "paidIn", "(I)I"⟩, prog_14_method_104_code, 2, (some .int)))) (bn 131 (bl 130 ((⟨"CapitalCaseModel", "pillar", "(I)I"⟩, prog_14_method_90_code, 5, (some .int)))) (bl 131 ((⟨"CapitalCaseModel", "place", "()I"⟩, prog_14_method_21_code, 1, (some .int))))))) (bn 134 (bn 133 (bl 132 ((⟨"CapitalCaseModel", "plain", "(I)V"⟩, prog_14_method_19_code, 3, none))) (bl 133 ((⟨"CapitalCaseModel", "put", "(I)V"⟩, prog_14_method_4_code, 3, none)))) (bn 135 (bl 134 ((⟨"CapitalCaseModel", "read", "()I"⟩, prog_14_method_20_code, 2, (some .int)))) (bn 136 (bl 135 ((⟨"CapitalCaseModel", "records", "()V"⟩, prog_14_method_76_code, 2, none))) (bl 136 ((⟨"CapitalCaseModel", "restore", "(I)Z"⟩, prog_14_method_112_code, 3, (some .boolean))))))))) (bn 147 (bn 142 (bn 139 (bn 138 (bl 137 ((⟨"CapitalCaseModel", "set", "(I)Z"⟩, prog_14_method_77_code, 2, (some .boolean)))) (bl 138 ((⟨"CapitalCaseModel", "strike", "(I)I"⟩, prog_14_method_98_code, 5, (some .int))))) (bn 140 (bl 139 ((⟨"CapitalCaseModel", "sumNow", "(II)I"⟩, prog_14_method_113_code, 5, (some .int)))) (bn 141 (bl 140 ((⟨"CapitalCaseModel", "tell", "(IIZ)I"⟩, prog_14_method_106_code, 4, (some .int)))) (bl 141 ((⟨"CapitalCaseModel", "tells", "(IIII)I"⟩, prog_14_method_75_code, 5, (some .int))))))) (bn 144 (bn 143 (bl 142 ((⟨"CapitalCaseModel", "then", "(IIII)I"⟩, prog_14_method_103_code, 5, (some .int)))) (bl 143 ((⟨"CapitalCaseModel", "token", "(IIIJ)V"⟩, prog_14_method_11_code, 6, none)))) (bn 145 (bl 144 ((⟨"CapitalCaseModel", "twoDays", "(I)I"⟩, prog_14_method_92_code, 7, (some .int)))) (bn 146 (bl 145 ((⟨"CapitalCaseModel", "undo", "()Z"⟩, prog_14_method_83_code, 2, (some .boolean)))) (bl 146 ((⟨"CapitalCaseModel", "verse", "(II)I"⟩, prog_14_method_73_code, 3, (some .int)))))))) (bn 152 (bn 149 (bn 148 (bl 147 ((⟨"CapitalCaseModel", "versesSo", "(II)I"⟩, prog_14_method_114_code, 5, (some .int)))) (bl 148 ((⟨"CapitalCaseModel", "wants", "(II)I"⟩, prog_14_method_74_code, 3, (some .int))))) (bn 150 (bl 149 ((⟨"CapitalCaseModel", "whose", "(II)I"⟩, prog_14_method_109_code, 4, (some .int)))) (bn 151 (bl 150 ((⟨"CapitalCaseModel", "whoseBits", "(I)I"⟩, prog_14_method_108_code, 6, (some .int)))) (bl 151 ((⟨"CapitalCaseModel", "word", "(IIIIIII)J"⟩, prog_14_method_10_code, 7, (some .long))))))) (bn 154 (bn 153 (bl 152 ((⟨"CapitalCaseModel", "wornOut", "(II)I"⟩, prog_14_method_102_code, 4, (some .int)))) (bl 153 ((⟨"CapitalCaseModel", "worth", "(II)I"⟩, prog_14_method_89_code, 4, (some .int))))) (bn 155 (bl 154 ((⟨"CapitalCaseModel", "year", "(IIII)I"⟩, prog_14_method_105_code, 7, (some .int)))) (bn 156 (bl 155 ((⟨"java/lang/Integer", "bitCount", "(I)I"⟩, prog_16_method_49_code, 1, (some .int)))) (bl 156 ((⟨"java/util/Arrays", "fill", "([II)V"⟩, prog_22_method_103_code, 4, none))))))))))
theorem cal_0 : xCal PX 0 ⟨"CapitalCase$History", "<init>", "()V"⟩ prog_2_method_1_code 1 none 0 := ⟨rfl, wd_380, wd_117, by decide, by decide, by decide, by decide +kernel⟩
theorem cal_1 : xCal PX 1 ⟨"CapitalCase$History", "keep", "(LCapitalCase$Town;)V"⟩ prog_2_method_2_code 3 none 1 := ⟨rfl, wd_970, wd_117, by decide, by decide, by decide, by decide +kernel⟩
theorem cal_2 : xCal PX 2 ⟨"CapitalCase$History", "takeBack", "(LCapitalCase$Town;)Z"⟩ prog_2_method_3_code 4 (some .boolean) 1 := ⟨rfl, wd_1050, wd_117, by decide, by decide, by decide, by decide +kernel⟩
theorem cal_3 : xCal PX 3 ⟨"CapitalCase$Judge", "<init>", "(LCapitalCase$Script;)V"⟩ prog_3_method_1_code 2 none 1 := ⟨rfl, wd_420, wd_119, by decide, by decide, by decide, by decide +kernel⟩
theorem cal_4 : xCal PX 4 ⟨"CapitalCase$Parser", "<init>", "([B)V"⟩ prog_4_method_1_code 2 none 1 := ⟨rfl, wd_258, wd_114, by decide, by decide, by decide, by decide +kernel⟩
theorem cal_5 : xCal PX 5 ⟨"CapitalCase$Parser", "next", "()I"⟩ prog_4_method_3_code 1 (some .int) 0 := ⟨rfl, wd_759, wd_114, by decide, by decide, by decide, by decide +kernel⟩
theorem cal_6 : xCal PX 6 ⟨"CapitalCase$Parser", "parse", "(I)I"⟩ prog_4_method_2_code 3 (some .int) 1 := ⟨rfl, wd_621, wd_114, by decide, by decide, by decide, by decide +kernel⟩
theorem cal_7 : xCal PX 7 ⟨"CapitalCase$Planner", "<init>", "(LCapitalCase$Script;LCapitalCase$Judge;)V"⟩ prog_5_method_1_code 3 none 2 := ⟨rfl, wd_449, wd_121, by decide, by decide, by decide, by decide +kernel⟩
theorem cal_8 : xCal PX 8 ⟨"CapitalCase$Planner", "keepIfMore", "(II)V"⟩ prog_5_method_10_code 3 none 2 := ⟨rfl, wd_1074, wd_121, by decide, by decide, by decide, by decide +kernel⟩
theorem cal_9 : xCal PX 9 ⟨"CapitalCase$Planner", "prepare", "(LCapitalCase$Town;I)V"⟩ prog_5_method_2_code 5 none 2 := ⟨rfl, wd_946, wd_121, by decide, by decide, by decide, by decide +kernel⟩
theorem cal_10 : xCal PX 10 ⟨"CapitalCase$Planner", "search", "()V"⟩ prog_5_method_9_code 6 none 0 := ⟨rfl, wd_1069, wd_121, by decide, by decide, by decide, by decide +kernel⟩
theorem cal_11 : xCal PX 11 ⟨"CapitalCase$Planner", "seek", "(LCapitalCase$Town;)V"⟩ prog_5_method_7_code 2 none 1 := ⟨rfl, wd_1063, wd_121, by decide, by decide, by decide, by decide +kernel⟩
theorem cal_12 : xCal PX 12 ⟨"CapitalCase$Press", "<init>", "(LCapitalCase$Script;LCapitalCase$Judge;)V"⟩ prog_6_method_1_code 3 none 2 := ⟨rfl, wd_436, wd_120, by decide, by decide, by decide, by decide +kernel⟩
theorem cal_13 : xCal PX 13 ⟨"CapitalCase$Press", "lot", "(III)I"⟩ prog_6_method_8_code 4 (some .int) 3 := ⟨rfl, wd_1038, wd_120, by decide, by decide, by decide, by decide +kernel⟩
theorem cal_14 : xCal PX 14 ⟨"CapitalCase$Press", "mix", "(II)I"⟩ prog_6_method_9_code 3 (some .int) 2 := ⟨rfl, wd_1041, wd_120, by decide, by decide, by decide, by decide +kernel⟩
theorem cal_15 : xCal PX 15 ⟨"CapitalCase$Press", "owed", "(LCapitalCase$Town;)I"⟩ prog_6_method_3_code 4 (some .int) 1 := ⟨rfl, wd_1016, wd_120, by decide, by decide, by decide, by decide +kernel⟩
theorem cal_16 : xCal PX 16 ⟨"CapitalCase$Press", "passDays", "(LCapitalCase$Town;II)V"⟩ prog_6_method_2_code 5 none 3 := ⟨rfl, wd_1008, wd_120, by decide, by decide, by decide, by decide +kernel⟩
theorem cal_17 : xCal PX 17 ⟨"CapitalCase$Press", "steal", "(LCapitalCase$Town;I)V"⟩ prog_6_method_7_code 6 none 2 := ⟨rfl, wd_1031, wd_120, by decide, by decide, by decide, by decide +kernel⟩
theorem cal_18 : xCal PX 18 ⟨"CapitalCase$Press", "thievesCome", "(II)Z"⟩ prog_6_method_6_code 3 (some .boolean) 2 := ⟨rfl, wd_1035, wd_120, by decide, by decide, by decide, by decide +kernel⟩
theorem cal_19 : xCal PX 19 ⟨"CapitalCase$Press", "work", "(LCapitalCase$Town;)V"⟩ prog_6_method_4_code 4 none 1 := ⟨rfl, wd_1012, wd_120, by decide, by decide, by decide, by decide +kernel⟩
theorem cal_20 : xCal PX 20 ⟨"CapitalCase$Prints", "<init>", "()V"⟩ prog_7_method_1_code 1 none 0 := ⟨rfl, wd_399, wd_118, by decide, by decide, by decide, by decide +kernel⟩
theorem cal_21 : xCal PX 21 ⟨"CapitalCase$Prints", "left", "(LCapitalCase$Town;II)I"⟩ prog_7_method_3_code 8 (some .int) 3 := ⟨rfl, wd_1216, wd_118, by decide, by decide, by decide, by decide +kernel⟩
theorem cal_22 : xCal PX 22 ⟨"CapitalCase$Prints", "letterToAsk", "(LCapitalCase$Town;II)I"⟩ prog_7_method_4_code 9 (some .int) 3 := ⟨rfl, wd_1230, wd_118, by decide, by decide, by decide, by decide +kernel⟩
theorem cal_23 : xCal PX 23 ⟨"CapitalCase$Prints", "note", "(IIZ)I"⟩ prog_7_method_2_code 4 (some .int) 3 := ⟨rfl, wd_1204, wd_118, by decide, by decide, by decide, by decide +kernel⟩
theorem cal_24 : xCal PX 24 ⟨"CapitalCase$Script", "<init>", "()V"⟩ prog_8_method_1_code 1 none 0 := ⟨rfl, wd_145, wd_112, by decide, by decide, by decide, by decide +kernel⟩
theorem cal_25 : xCal PX 25 ⟨"CapitalCase$Script", "add", "(II)V"⟩ prog_8_method_4_code 3 none 2 := ⟨rfl, wd_161, wd_112, by decide, by decide, by decide, by decide +kernel⟩
theorem cal_26 : xCal PX 26 ⟨"CapitalCase$Script", "become", "(LCapitalCase$Script;)V"⟩ prog_8_method_6_code 2 none 1 := ⟨rfl, wd_828, wd_112, by decide, by decide, by decide, by decide +kernel⟩
theorem cal_27 : xCal PX 27 ⟨"CapitalCase$Script", "layDown", "(III)V"⟩ prog_8_method_3_code 4 none 3 := ⟨rfl, wd_157, wd_112, by decide, by decide, by decide, by decide +kernel⟩
theorem cal_28 : xCal PX 28 ⟨"CapitalCase$Script", "wipe", "()V"⟩ prog_8_method_2_code 1 none 0 := ⟨rfl, wd_150, wd_112, by decide, by decide, by decide, by decide +kernel⟩
theorem cal_29 : xCal PX 29 ⟨"CapitalCase$Tokens", "<init>", "()V"⟩ prog_9_method_1_code 1 none 0 := ⟨rfl, wd_266, wd_115, by decide, by decide, by decide, by decide +kernel⟩
theorem cal_30 : xCal PX 30 ⟨"CapitalCase$Tokens", "scan", "([BI)V"⟩ prog_9_method_2_code 5 none 2 := ⟨rfl, wd_626, wd_115, by decide, by decide, by decide, by decide +kernel⟩
theorem cal_31 : xCal PX 31 ⟨"CapitalCase$Town", "<init>", "()V"⟩ prog_10_method_1_code 1 none 0 := ⟨rfl, wd_318, wd_116, by decide, by decide, by decide, by decide +kernel⟩
theorem cal_32 : xCal PX 32 ⟨"CapitalCase$Town", "become", "(LCapitalCase$Town;)V"⟩ prog_10_method_3_code 2 none 1 := ⟨rfl, wd_975, wd_116, by decide, by decide, by decide, by decide +kernel⟩
theorem cal_33 : xCal PX 33 ⟨"CapitalCase$Town", "begin", "(LCapitalCase$Script;)V"⟩ prog_10_method_2_code 2 none 1 := ⟨rfl, wd_839, wd_116, by decide, by decide, by decide, by decide +kernel⟩
theorem cal_34 : xCal PX 34 ⟨"CapitalCase$Town", "free", "(I)I"⟩ prog_10_method_4_code 2 (some .int) 1 := ⟨rfl, wd_861, wd_116, by decide, by decide, by decide, by decide +kernel⟩
theorem cal_35 : xCal PX 35 ⟨"CapitalCase$Town", "open", "(I)I"⟩ prog_10_method_7_code 2 (some .int) 1 := ⟨rfl, wd_938, wd_116, by decide, by decide, by decide, by decide +kernel⟩
theorem cal_36 : xCal PX 36 ⟨"CapitalCase$Trade", "<init>", "(LCapitalCase$Script;)V"⟩ prog_11_method_1_code 2 none 1 := ⟨rfl, wd_539, wd_123, by decide, by decide, by decide, by decide +kernel⟩
theorem cal_37 : xCal PX 37 ⟨"CapitalCase$Trade", "seekBargains", "(LCapitalCase$Town;)V"⟩ prog_11_method_4_code 4 none 1 := ⟨rfl, wd_1146, wd_123, by decide, by decide, by decide, by decide +kernel⟩
theorem cal_38 : xCal PX 38 ⟨"CapitalCase$TwoDays", "<init>", "(LCapitalCase$Script;LCapitalCase$Judge;LCapitalCase$Press;LCapitalCase$Planner;)V"⟩ prog_12_method_1_code 5 none 4 := ⟨rfl, wd_499, wd_122, by decide, by decide, by decide, by decide +kernel⟩
theorem cal_39 : xCal PX 39 ⟨"CapitalCase$TwoDays", "giveUpAll", "(I)V"⟩ prog_12_method_5_code 3 none 1 := ⟨rfl, wd_1115, wd_122, by decide, by decide, by decide, by decide +kernel⟩
theorem cal_40 : xCal PX 40 ⟨"CapitalCase$TwoDays", "passFirst", "(LCapitalCase$Town;I)V"⟩ prog_12_method_6_code 4 none 2 := ⟨rfl, wd_1120, wd_122, by decide, by decide, by decide, by decide +kernel⟩
theorem cal_41 : xCal PX 41 ⟨"CapitalCase$TwoDays", "seek", "(LCapitalCase$Town;)V"⟩ prog_12_method_2_code 6 none 1 := ⟨rfl, wd_1098, wd_122, by decide, by decide, by decide, by decide +kernel⟩
theorem cal_42 : xCal PX 42 ⟨"CapitalCase$TwoDays", "takeAll", "(I)Z"⟩ prog_12_method_4_code 3 (some .boolean) 1 := ⟨rfl, wd_1110, wd_122, by decide, by decide, by decide, by decide +kernel⟩
theorem cal_43 : xCal PX 43 ⟨"CapitalCase$TwoDays", "total", "([II)I"⟩ prog_12_method_3_code 5 (some .int) 2 := ⟨rfl, wd_1106, wd_122, by decide, by decide, by decide, by decide +kernel⟩
theorem cal_44 : xCal PX 44 ⟨"CapitalCase", "<init>", "()V"⟩ prog_1_method_1_code 1 none 0 := ⟨rfl, wd_137, wd_111, by decide, by decide, by decide, by decide +kernel⟩
theorem cal_45 : xCal PX 45 ⟨"CapitalCase", "append", "(I)V"⟩ prog_1_method_3_code 3 none 1 := ⟨rfl, wd_609, wd_111, by decide, by decide, by decide, by decide +kernel⟩
theorem cal_46 : xCal PX 46 ⟨"CapitalCase", "ask", "(II)I"⟩ prog_1_method_41_code 3 (some .int) 2 := ⟨rfl, wd_1226, wd_111, by decide, by decide, by decide, by decide +kernel⟩
theorem cal_47 : xCal PX 47 ⟨"CapitalCase", "back", "(I)I"⟩ prog_1_method_4_code 2 (some .int) 1 := ⟨rfl, wd_613, wd_111, by decide, by decide, by decide, by decide +kernel⟩
theorem cal_48 : xCal PX 48 ⟨"CapitalCase", "bargains", "(I)I"⟩ prog_1_method_30_code 2 (some .int) 1 := ⟨rfl, wd_1142, wd_111, by decide, by decide, by decide, by decide +kernel⟩
theorem cal_49 : xCal PX 49 ⟨"CapitalCase", "beginAnew", "()V"⟩ prog_1_method_6_code 2 none 0 := ⟨rfl, wd_835, wd_111, by decide, by decide, by decide, by decide +kernel⟩
theorem cal_50 : xCal PX 50 ⟨"CapitalCase", "best", "(I)I"⟩ prog_1_method_25_code 2 (some .int) 1 := ⟨rfl, wd_1059, wd_111, by decide, by decide, by decide, by decide +kernel⟩
theorem cal_51 : xCal PX 51 ⟨"CapitalCase", "clash", "(I)I"⟩ prog_1_method_32_code 2 (some .int) 1 := ⟨rfl, wd_1172, wd_111, by decide, by decide, by decide, by decide +kernel⟩
theorem cal_52 : xCal PX 52 ⟨"CapitalCase", "clear", "(I)Z"⟩ prog_1_method_19_code 2 (some .boolean) 1 := ⟨rfl, wd_984, wd_111, by decide, by decide, by decide, by decide +kernel⟩
theorem cal_53 : xCal PX 53 ⟨"CapitalCase", "count", "(I)I"⟩ prog_1_method_44_code 2 (some .int) 1 := ⟨rfl, wd_1244, wd_111, by decide, by decide, by decide, by decide +kernel⟩
theorem cal_54 : xCal PX 54 ⟨"CapitalCase", "days", "(I)I"⟩ prog_1_method_22_code 2 (some .int) 1 := ⟨rfl, wd_1004, wd_111, by decide, by decide, by decide, by decide +kernel⟩
theorem cal_55 : xCal PX 55 ⟨"CapitalCase", "feed", "(IIIII)I"⟩ prog_1_method_2_code 6 (some .int) 5 := ⟨rfl, wd_605, wd_111, by decide, by decide, by decide, by decide +kernel⟩
theorem cal_56 : xCal PX 56 ⟨"CapitalCase", "forget", "()I"⟩ prog_1_method_39_code 2 (some .int) 0 := ⟨rfl, wd_1208, wd_111, by decide, by decide, by decide, by decide +kernel⟩
theorem cal_57 : xCal PX 57 ⟨"CapitalCase", "from", "(II)I"⟩ prog_1_method_24_code 3 (some .int) 2 := ⟨rfl, wd_1054, wd_111, by decide, by decide, by decide, by decide +kernel⟩
theorem cal_58 : xCal PX 58 ⟨"CapitalCase", "giveBack", "(III)Z"⟩ prog_1_method_21_code 5 (some .boolean) 3 := ⟨rfl, wd_1000, wd_111, by decide, by decide, by decide, by decide +kernel⟩
theorem cal_59 : xCal PX 59 ⟨"CapitalCase", "heldSlots", "()I"⟩ prog_1_method_46_code 3 (some .int) 0 := ⟨rfl, wd_1251, wd_111, by decide, by decide, by decide, by decide +kernel⟩
theorem cal_60 : xCal PX 60 ⟨"CapitalCase", "hold", "(I)Z"⟩ prog_1_method_42_code 2 (some .boolean) 1 := ⟨rfl, wd_1236, wd_111, by decide, by decide, by decide, by decide +kernel⟩
theorem cal_61 : xCal PX 61 ⟨"CapitalCase", "house", "(III)I"⟩ prog_1_method_12_code 5 (some .int) 3 := ⟨rfl, wd_849, wd_111, by decide, by decide, by decide, by decide +kernel⟩
theorem cal_62 : xCal PX 62 ⟨"CapitalCase", "isCell", "(II)Z"⟩ prog_1_method_9_code 3 (some .boolean) 2 := ⟨rfl, wd_853, wd_111, by decide, by decide, by decide, by decide +kernel⟩
theorem cal_63 : xCal PX 63 ⟨"CapitalCase", "isHouse", "(I)Z"⟩ prog_1_method_8_code 2 (some .boolean) 1 := ⟨rfl, wd_857, wd_111, by decide, by decide, by decide, by decide +kernel⟩
theorem cal_64 : xCal PX 64 ⟨"CapitalCase", "isVerse", "(I)Z"⟩ prog_1_method_10_code 2 (some .boolean) 1 := ⟨rfl, wd_897, wd_111, by decide, by decide, by decide, by decide +kernel⟩
theorem cal_65 : xCal PX 65 ⟨"CapitalCase", "late", "()I"⟩ prog_1_method_33_code 3 (some .int) 0 := ⟨rfl, wd_1176, wd_111, by decide, by decide, by decide, by decide +kernel⟩
theorem cal_66 : xCal PX 66 ⟨"CapitalCase", "lend", "(III)Z"⟩ prog_1_method_20_code 4 (some .boolean) 3 := ⟨rfl, wd_992, wd_111, by decide, by decide, by decide, by decide +kernel⟩
theorem cal_67 : xCal PX 67 ⟨"CapitalCase", "loans", "(II)I"⟩ prog_1_method_29_code 3 (some .int) 2 := ⟨rfl, wd_1129, wd_111, by decide, by decide, by decide, by decide +kernel⟩
theorem cal_68 : xCal PX 68 ⟨"CapitalCase", "paidIn", "(I)I"⟩ prog_1_method_36_code 2 (some .int) 1 := ⟨rfl, wd_1192, wd_111, by decide, by decide, by decide, by decide +kernel⟩
theorem cal_69 : xCal PX 69 ⟨"CapitalCase", "pillar", "(I)I"⟩ prog_1_method_27_code 5 (some .int) 1 := ⟨rfl, wd_1086, wd_111, by decide, by decide, by decide, by decide +kernel⟩
theorem cal_70 : xCal PX 70 ⟨"CapitalCase", "place", "()I"⟩ prog_1_method_7_code 1 (some .int) 0 := ⟨rfl, wd_845, wd_111, by decide, by decide, by decide, by decide +kernel⟩
theorem cal_71 : xCal PX 71 ⟨"CapitalCase", "read", "()I"⟩ prog_1_method_5_code 2 (some .int) 0 := ⟨rfl, wd_617, wd_111, by decide, by decide, by decide, by decide +kernel⟩
theorem cal_72 : xCal PX 72 ⟨"CapitalCase", "restore", "(I)Z"⟩ prog_1_method_43_code 2 (some .boolean) 1 := ⟨rfl, wd_1240, wd_111, by decide, by decide, by decide, by decide +kernel⟩
theorem cal_73 : xCal PX 73 ⟨"CapitalCase", "set", "(I)Z"⟩ prog_1_method_17_code 2 (some .boolean) 1 := ⟨rfl, wd_930, wd_111, by decide, by decide, by decide, by decide +kernel⟩
theorem cal_74 : xCal PX 74 ⟨"CapitalCase", "settable", "()I"⟩ prog_1_method_47_code 3 (some .int) 0 := ⟨rfl, wd_1256, wd_111, by decide, by decide, by decide, by decide +kernel⟩
theorem cal_75 : xCal PX 75 ⟨"CapitalCase", "strike", "(I)I"⟩ prog_1_method_31_code 4 (some .int) 1 := ⟨rfl, wd_1164, wd_111, by decide, by decide, by decide, by decide +kernel⟩
theorem cal_76 : xCal PX 76 ⟨"CapitalCase", "sum", "([I)I"⟩ prog_1_method_45_code 6 (some .int) 1 := ⟨rfl, wd_1247, wd_111, by decide, by decide, by decide, by decide +kernel⟩
theorem cal_77 : xCal PX 77 ⟨"CapitalCase", "tell", "(IIZ)I"⟩ prog_1_method_38_code 4 (some .int) 3 := ⟨rfl, wd_1200, wd_111, by decide, by decide, by decide, by decide +kernel⟩
theorem cal_78 : xCal PX 78 ⟨"CapitalCase", "tells", "(IIII)I"⟩ prog_1_method_16_code 5 (some .int) 4 := ⟨rfl, wd_917, wd_111, by decide, by decide, by decide, by decide +kernel⟩
theorem cal_79 : xCal PX 79 ⟨"CapitalCase", "then", "(IIII)I"⟩ prog_1_method_35_code 6 (some .int) 4 := ⟨rfl, wd_1188, wd_111, by decide, by decide, by decide, by decide +kernel⟩
theorem cal_80 : xCal PX 80 ⟨"CapitalCase", "twoDays", "(I)I"⟩ prog_1_method_28_code 2 (some .int) 1 := ⟨rfl, wd_1094, wd_111, by decide, by decide, by decide, by decide +kernel⟩
theorem cal_81 : xCal PX 81 ⟨"CapitalCase", "undo", "()Z"⟩ prog_1_method_23_code 1 (some .boolean) 0 := ⟨rfl, wd_1046, wd_111, by decide, by decide, by decide, by decide +kernel⟩
theorem cal_82 : xCal PX 82 ⟨"CapitalCase", "verse", "(II)I"⟩ prog_1_method_13_code 3 (some .int) 2 := ⟨rfl, wd_893, wd_111, by decide, by decide, by decide, by decide +kernel⟩
theorem cal_83 : xCal PX 83 ⟨"CapitalCase", "wants", "(II)I"⟩ prog_1_method_15_code 3 (some .int) 2 := ⟨rfl, wd_913, wd_111, by decide, by decide, by decide, by decide +kernel⟩
theorem cal_84 : xCal PX 84 ⟨"CapitalCase", "whose", "(II)I"⟩ prog_1_method_40_code 4 (some .int) 2 := ⟨rfl, wd_1212, wd_111, by decide, by decide, by decide, by decide +kernel⟩
theorem cal_85 : xCal PX 85 ⟨"CapitalCase", "wornOut", "(II)I"⟩ prog_1_method_34_code 3 (some .int) 2 := ⟨rfl, wd_1180, wd_111, by decide, by decide, by decide, by decide +kernel⟩
theorem cal_86 : xCal PX 86 ⟨"CapitalCase", "worth", "(II)I"⟩ prog_1_method_26_code 4 (some .int) 2 := ⟨rfl, wd_1081, wd_111, by decide, by decide, by decide, by decide +kernel⟩
theorem cal_87 : xCal PX 87 ⟨"CapitalCase", "year", "(IIII)I"⟩ prog_1_method_37_code 7 (some .int) 4 := ⟨rfl, wd_1196, wd_111, by decide, by decide, by decide, by decide +kernel⟩
theorem cal_88 : xCal PX 88 ⟨"CapitalCaseModel", "<init>", "()V"⟩ prog_14_method_2_code 1 none 0 := ⟨rfl, wd_1261, wd_124, by decide, by decide, by decide, by decide +kernel⟩
theorem cal_89 : xCal PX 89 ⟨"CapitalCaseModel", "appends", "(JI)J"⟩ prog_14_method_9_code 3 (some .long) 2 := ⟨rfl, wd_1272, wd_124, by decide, by decide, by decide, by decide +kernel⟩
theorem cal_90 : xCal PX 90 ⟨"CapitalCaseModel", "areThieves", "()Z"⟩ prog_14_method_51_code 1 (some .boolean) 0 := ⟨rfl, wd_1769, wd_124, by decide, by decide, by decide, by decide +kernel⟩
theorem cal_91 : xCal PX 91 ⟨"CapitalCaseModel", "areTwo", "(III)Z"⟩ prog_14_method_79_code 4 (some .boolean) 3 := ⟨rfl, wd_1742, wd_124, by decide, by decide, by decide, by decide +kernel⟩
theorem cal_92 : xCal PX 92 ⟨"CapitalCaseModel", "ask", "(II)I"⟩ prog_14_method_110_code 9 (some .int) 2 := ⟨rfl, wd_1896, wd_124, by decide, by decide, by decide, by decide +kernel⟩
theorem cal_93 : xCal PX 93 ⟨"CapitalCaseModel", "back", "(I)I"⟩ prog_14_method_5_code 2 (some .int) 1 := ⟨rfl, wd_1504, wd_124, by decide, by decide, by decide, by decide +kernel⟩
theorem cal_94 : xCal PX 94 ⟨"CapitalCaseModel", "bargains", "(I)I"⟩ prog_14_method_97_code 7 (some .int) 1 := ⟨rfl, wd_1837, wd_124, by decide, by decide, by decide, by decide +kernel⟩
theorem cal_95 : xCal PX 95 ⟨"CapitalCaseModel", "begins", "()V"⟩ prog_14_method_46_code 2 none 0 := ⟨rfl, wd_1277, wd_124, by decide, by decide, by decide, by decide +kernel⟩
theorem cal_96 : xCal PX 96 ⟨"CapitalCaseModel", "best", "(I)I"⟩ prog_14_method_88_code 2 (some .int) 1 := ⟨rfl, wd_1793, wd_124, by decide, by decide, by decide, by decide +kernel⟩
theorem cal_97 : xCal PX 97 ⟨"CapitalCaseModel", "bits", "(I)I"⟩ prog_14_method_42_code 3 (some .int) 1 := ⟨rfl, wd_1892, wd_124, by decide, by decide, by decide, by decide +kernel⟩
theorem cal_98 : xCal PX 98 ⟨"CapitalCaseModel", "byteAt", "(I)I"⟩ prog_14_method_6_code 2 (some .int) 1 := ⟨rfl, wd_1516, wd_124, by decide, by decide, by decide, by decide +kernel⟩
theorem cal_99 : xCal PX 99 ⟨"CapitalCaseModel", "clash", "(I)I"⟩ prog_14_method_99_code 6 (some .int) 1 := ⟨rfl, wd_1853, wd_124, by decide, by decide, by decide, by decide +kernel⟩
theorem cal_100 : xCal PX 100 ⟨"CapitalCaseModel", "clear", "(I)Z"⟩ prog_14_method_78_code 2 (some .boolean) 1 := ⟨rfl, wd_1734, wd_124, by decide, by decide, by decide, by decide +kernel⟩
theorem cal_101 : xCal PX 101 ⟨"CapitalCaseModel", "copies", "()V"⟩ prog_14_method_48_code 2 none 0 := ⟨rfl, wd_1638, wd_124, by decide, by decide, by decide, by decide +kernel⟩
theorem cal_102 : xCal PX 102 ⟨"CapitalCaseModel", "count", "(I)I"⟩ prog_14_method_115_code 5 (some .int) 1 := ⟨rfl, wd_1908, wd_124, by decide, by decide, by decide, by decide +kernel⟩
theorem cal_103 : xCal PX 103 ⟨"CapitalCaseModel", "cut", "()V"⟩ prog_14_method_12_code 8 none 0 := ⟨rfl, wd_1512, wd_124, by decide, by decide, by decide, by decide +kernel⟩
theorem cal_104 : xCal PX 104 ⟨"CapitalCaseModel", "dayGoes", "()V"⟩ prog_14_method_70_code 2 none 0 := ⟨rfl, wd_1761, wd_124, by decide, by decide, by decide, by decide +kernel⟩
theorem cal_105 : xCal PX 105 ⟨"CapitalCaseModel", "days", "(I)I"⟩ prog_14_method_82_code 2 (some .int) 1 := ⟨rfl, wd_1750, wd_124, by decide, by decide, by decide, by decide +kernel⟩
theorem cal_106 : xCal PX 106 ⟨"CapitalCaseModel", "feed", "(IIIII)I"⟩ prog_14_method_3_code 6 (some .int) 5 := ⟨rfl, wd_1496, wd_124, by decide, by decide, by decide, by decide +kernel⟩
theorem cal_107 : xCal PX 107 ⟨"CapitalCaseModel", "findsBest", "()V"⟩ prog_14_method_87_code 5 none 0 := ⟨rfl, wd_1797, wd_124, by decide, by decide, by decide, by decide +kernel⟩
theorem cal_108 : xCal PX 108 ⟨"CapitalCaseModel", "firstDay", "(I)I"⟩ prog_14_method_91_code 3 (some .int) 1 := ⟨rfl, wd_1825, wd_124, by decide, by decide, by decide, by decide +kernel⟩
theorem cal_109 : xCal PX 109 ⟨"CapitalCaseModel", "forget", "()I"⟩ prog_14_method_107_code 2 (some .int) 0 := ⟨rfl, wd_1881, wd_124, by decide, by decide, by decide, by decide +kernel⟩
theorem cal_110 : xCal PX 110 ⟨"CapitalCaseModel", "from", "(II)I"⟩ prog_14_method_84_code 3 (some .int) 2 := ⟨rfl, wd_1789, wd_124, by decide, by decide, by decide, by decide +kernel⟩
theorem cal_111 : xCal PX 111 ⟨"CapitalCaseModel", "giveBack", "(III)Z"⟩ prog_14_method_81_code 5 (some .boolean) 3 := ⟨rfl, wd_1746, wd_124, by decide, by decide, by decide, by decide +kernel⟩
theorem cal_112 : xCal PX 112 ⟨"CapitalCaseModel", "goes", "(I)V"⟩ prog_14_method_71_code 3 none 1 := ⟨rfl, wd_1757, wd_124, by decide, by decide, by decide, by decide +kernel⟩
theorem cal_113 : xCal PX 113 ⟨"CapitalCaseModel", "hold", "(I)Z"⟩ prog_14_method_111_code 3 (some .boolean) 1 := ⟨rfl, wd_1900, wd_124, by decide, by decide, by decide, by decide +kernel⟩
theorem cal_114 : xCal PX 114 ⟨"CapitalCaseModel", "house", "(III)I"⟩ prog_14_method_72_code 5 (some .int) 3 := ⟨rfl, wd_1624, wd_124, by decide, by decide, by decide, by decide +kernel⟩
theorem cal_115 : xCal PX 115 ⟨"CapitalCaseModel", "in", "(III)Z"⟩ prog_14_method_40_code 3 (some .boolean) 3 := ⟨rfl, wd_1631, wd_124, by decide, by decide, by decide, by decide +kernel⟩
theorem cal_116 : xCal PX 116 ⟨"CapitalCaseModel", "is", "(I)Z"⟩ prog_14_method_14_code 2 (some .boolean) 1 := ⟨rfl, wd_1534, wd_124, by decide, by decide, by decide, by decide +kernel⟩
theorem cal_117 : xCal PX 117 ⟨"CapitalCaseModel", "isHouse", "(I)Z"⟩ prog_14_method_43_code 2 (some .boolean) 1 := ⟨rfl, wd_1628, wd_124, by decide, by decide, by decide, by decide +kernel⟩
theorem cal_118 : xCal PX 118 ⟨"CapitalCaseModel", "isLong", "(I)Z"⟩ prog_14_method_101_code 1 (some .boolean) 1 := ⟨rfl, wd_1753, wd_124, by decide, by decide, by decide, by decide +kernel⟩
theorem cal_119 : xCal PX 119 ⟨"CapitalCaseModel", "isSort", "(I)Z"⟩ prog_14_method_44_code 1 (some .boolean) 1 := ⟨rfl, wd_1634, wd_124, by decide, by decide, by decide, by decide +kernel⟩
theorem cal_120 : xCal PX 120 ⟨"CapitalCaseModel", "isVerse", "(I)Z"⟩ prog_14_method_45_code 2 (some .boolean) 1 := ⟨rfl, wd_1681, wd_124, by decide, by decide, by decide, by decide +kernel⟩
theorem cal_121 : xCal PX 121 ⟨"CapitalCaseModel", "keepsAhead", "()V"⟩ prog_14_method_85_code 2 none 0 := ⟨rfl, wd_1805, wd_124, by decide, by decide, by decide, by decide +kernel⟩
theorem cal_122 : xCal PX 122 ⟨"CapitalCaseModel", "keepsRow", "()V"⟩ prog_14_method_47_code 2 none 0 := ⟨rfl, wd_1281, wd_124, by decide, by decide, by decide, by decide +kernel⟩
theorem cal_123 : xCal PX 123 ⟨"CapitalCaseModel", "late", "()I"⟩ prog_14_method_100_code 3 (some .int) 0 := ⟨rfl, wd_1857, wd_124, by decide, by decide, by decide, by decide +kernel⟩
theorem cal_124 : xCal PX 124 ⟨"CapitalCaseModel", "lend", "(III)Z"⟩ prog_14_method_80_code 4 (some .boolean) 3 := ⟨rfl, wd_1738, wd_124, by decide, by decide, by decide, by decide +kernel⟩
theorem cal_125 : xCal PX 125 ⟨"CapitalCaseModel", "loans", "(II)I"⟩ prog_14_method_94_code 8 (some .int) 2 := ⟨rfl, wd_1829, wd_124, by decide, by decide, by decide, by decide +kernel⟩
theorem cal_126 : xCal PX 126 ⟨"CapitalCaseModel", "lotOf", "(II)I"⟩ prog_14_method_50_code 3 (some .int) 2 := ⟨rfl, wd_1773, wd_124, by decide, by decide, by decide, by decide +kernel⟩
theorem cal_127 : xCal PX 127 ⟨"CapitalCaseModel", "mixed", "(II)I"⟩ prog_14_method_49_code 3 (some .int) 2 := ⟨rfl, wd_1776, wd_124, by decide, by decide, by decide, by decide +kernel⟩
theorem cal_128 : xCal PX 128 ⟨"CapitalCaseModel", "openBits", "()I"⟩ prog_14_method_67_code 3 (some .int) 0 := ⟨rfl, wd_1801, wd_124, by decide, by decide, by decide, by decide +kernel⟩
theorem cal_129 : xCal PX 129 ⟨"CapitalCaseModel", "paidIn", "(I)I"⟩ prog_14_method_104_code 2 (some .int) 1 := ⟨rfl, wd_1869, wd_124, by decide, by decide, by decide, by decide +kernel⟩
theorem cal_130 : xCal PX 130 ⟨"CapitalCaseModel", "pillar", "(I)I"⟩ prog_14_method_90_code 5 (some .int) 1 := ⟨rfl, wd_1817, wd_124, by decide, by decide, by decide, by decide +kernel⟩
theorem cal_131 : xCal PX 131 ⟨"CapitalCaseModel", "place", "()I"⟩ prog_14_method_21_code 1 (some .int) 0 := ⟨rfl, wd_1620, wd_124, by decide, by decide, by decide, by decide +kernel⟩
theorem cal_132 : xCal PX 132 ⟨"CapitalCaseModel", "plain", "(I)V"⟩ prog_14_method_19_code 3 none 1 := ⟨rfl, wd_1266, wd_124, by decide, by decide, by decide, by decide +kernel⟩
theorem cal_133 : xCal PX 133 ⟨"CapitalCaseModel", "put", "(I)V"⟩ prog_14_method_4_code 3 none 1 := ⟨rfl, wd_1500, wd_124, by decide, by decide, by decide, by decide +kernel⟩
theorem cal_134 : xCal PX 134 ⟨"CapitalCaseModel", "read", "()I"⟩ prog_14_method_20_code 2 (some .int) 0 := ⟨rfl, wd_1508, wd_124, by decide, by decide, by decide, by decide +kernel⟩
theorem cal_135 : xCal PX 135 ⟨"CapitalCaseModel", "records", "()V"⟩ prog_14_method_76_code 2 none 0 := ⟨rfl, wd_1730, wd_124, by decide, by decide, by decide, by decide +kernel⟩
theorem cal_136 : xCal PX 136 ⟨"CapitalCaseModel", "restore", "(I)Z"⟩ prog_14_method_112_code 3 (some .boolean) 1 := ⟨rfl, wd_1904, wd_124, by decide, by decide, by decide, by decide +kernel⟩
theorem cal_137 : xCal PX 137 ⟨"CapitalCaseModel", "set", "(I)Z"⟩ prog_14_method_77_code 2 (some .boolean) 1 := ⟨rfl, wd_1710, wd_124, by decide, by decide, by decide, by decide +kernel⟩
theorem cal_138 : xCal PX 138 ⟨"CapitalCaseModel", "strike", "(I)I"⟩ prog_14_method_98_code 5 (some .int) 1 := ⟨rfl, wd_1849, wd_124, by decide, by decide, by decide, by decide +kernel⟩
theorem cal_139 : xCal PX 139 ⟨"CapitalCaseModel", "sumNow", "(II)I"⟩ prog_14_method_113_code 5 (some .int) 2 := ⟨rfl, wd_1916, wd_124, by decide, by decide, by decide, by decide +kernel⟩
theorem cal_140 : xCal PX 140 ⟨"CapitalCaseModel", "tell", "(IIZ)I"⟩ prog_14_method_106_code 4 (some .int) 3 := ⟨rfl, wd_1877, wd_124, by decide, by decide, by decide, by decide +kernel⟩
theorem cal_141 : xCal PX 141 ⟨"CapitalCaseModel", "tells", "(IIII)I"⟩ prog_14_method_75_code 5 (some .int) 4 := ⟨rfl, wd_1697, wd_124, by decide, by decide, by decide, by decide +kernel⟩
theorem cal_142 : xCal PX 142 ⟨"CapitalCaseModel", "then", "(IIII)I"⟩ prog_14_method_103_code 5 (some .int) 4 := ⟨rfl, wd_1865, wd_124, by decide, by decide, by decide, by decide +kernel⟩
theorem cal_143 : xCal PX 143 ⟨"CapitalCaseModel", "token", "(IIIJ)V"⟩ prog_14_method_11_code 6 none 4 := ⟨rfl, wd_1520, wd_124, by decide, by decide, by decide, by decide +kernel⟩
theorem cal_144 : xCal PX 144 ⟨"CapitalCaseModel", "twoDays", "(I)I"⟩ prog_14_method_92_code 7 (some .int) 1 := ⟨rfl, wd_1821, wd_124, by decide, by decide, by decide, by decide +kernel⟩
theorem cal_145 : xCal PX 145 ⟨"CapitalCaseModel", "undo", "()Z"⟩ prog_14_method_83_code 2 (some .boolean) 0 := ⟨rfl, wd_1785, wd_124, by decide, by decide, by decide, by decide +kernel⟩
theorem cal_146 : xCal PX 146 ⟨"CapitalCaseModel", "verse", "(II)I"⟩ prog_14_method_73_code 3 (some .int) 2 := ⟨rfl, wd_1677, wd_124, by decide, by decide, by decide, by decide +kernel⟩
theorem cal_147 : xCal PX 147 ⟨"CapitalCaseModel", "versesSo", "(II)I"⟩ prog_14_method_114_code 5 (some .int) 2 := ⟨rfl, wd_1912, wd_124, by decide, by decide, by decide, by decide +kernel⟩
theorem cal_148 : xCal PX 148 ⟨"CapitalCaseModel", "wants", "(II)I"⟩ prog_14_method_74_code 3 (some .int) 2 := ⟨rfl, wd_1693, wd_124, by decide, by decide, by decide, by decide +kernel⟩
theorem cal_149 : xCal PX 149 ⟨"CapitalCaseModel", "whose", "(II)I"⟩ prog_14_method_109_code 4 (some .int) 2 := ⟨rfl, wd_1885, wd_124, by decide, by decide, by decide, by decide +kernel⟩
theorem cal_150 : xCal PX 150 ⟨"CapitalCaseModel", "whoseBits", "(I)I"⟩ prog_14_method_108_code 6 (some .int) 1 := ⟨rfl, wd_1889, wd_124, by decide, by decide, by decide, by decide +kernel⟩
theorem cal_151 : xCal PX 151 ⟨"CapitalCaseModel", "word", "(IIIIIII)J"⟩ prog_14_method_10_code 7 (some .long) 7 := ⟨rfl, wd_1269, wd_124, by decide, by decide, by decide, by decide +kernel⟩
theorem cal_152 : xCal PX 152 ⟨"CapitalCaseModel", "wornOut", "(II)I"⟩ prog_14_method_102_code 4 (some .int) 2 := ⟨rfl, wd_1861, wd_124, by decide, by decide, by decide, by decide +kernel⟩
theorem cal_153 : xCal PX 153 ⟨"CapitalCaseModel", "worth", "(II)I"⟩ prog_14_method_89_code 4 (some .int) 2 := ⟨rfl, wd_1813, wd_124, by decide, by decide, by decide, by decide +kernel⟩
theorem cal_154 : xCal PX 154 ⟨"CapitalCaseModel", "year", "(IIII)I"⟩ prog_14_method_105_code 7 (some .int) 4 := ⟨rfl, wd_1873, wd_124, by decide, by decide, by decide, by decide +kernel⟩
theorem cal_155 : xCal PX 155 ⟨"java/lang/Integer", "bitCount", "(I)I"⟩ prog_16_method_49_code 1 (some .int) 1 := ⟨rfl, wd_1219, wd_132, by decide, by decide, by decide, by decide +kernel⟩
theorem cal_156 : xCal PX 156 ⟨"java/util/Arrays", "fill", "([II)V"⟩ prog_22_method_103_code 4 none 2 := ⟨rfl, wd_153, wd_113, by decide, by decide, by decide, by decide +kernel⟩
end
section
theorem d135_0 : decode prog_14_method_76_code 0 = .ok (.aload_n 0, 1) := by decide +kernel
theorem d135_1 : decode prog_14_method_76_code 1 = .ok (.getfield 248, 3) := by decide +kernel
theorem d135_4 : decode prog_14_method_76_code 4 = .ok (.bipush 30, 2) := by decide +kernel
theorem d135_6 : decode prog_14_method_76_code 6 = .ok (.if_icmp .ne 44, 3) := by decide +kernel
theorem d135_50 : decode prog_14_method_76_code 50 = .ok (.iconst 0, 1) := by decide +kernel
theorem d135_51 : decode prog_14_method_76_code 51 = .ok (.istore_n 1, 1) := by decide +kernel
theorem d135_52 : decode prog_14_method_76_code 52 = .ok (.iload_n 1, 1) := by decide +kernel
theorem d135_53 : decode prog_14_method_76_code 53 = .ok (.sipush 390, 3) := by decide +kernel
theorem d135_56 : decode prog_14_method_76_code 56 = .ok (.if_icmp .ge 30, 3) := by decide +kernel
theorem d135_59 : decode prog_14_method_76_code 59 = .ok (.aload_n 0, 1) := by decide +kernel
theorem d135_60 : decode prog_14_method_76_code 60 = .ok (.getfield 128, 3) := by decide +kernel
theorem d135_63 : decode prog_14_method_76_code 63 = .ok (.sipush 390, 3) := by decide +kernel
theorem d135_66 : decode prog_14_method_76_code 66 = .ok (.aload_n 0, 1) := by decide +kernel
theorem d135_67 : decode prog_14_method_76_code 67 = .ok (.getfield 248, 3) := by decide +kernel
theorem d135_70 : decode prog_14_method_76_code 70 = .ok (.imul, 1) := by decide +kernel
theorem d135_71 : decode prog_14_method_76_code 71 = .ok (.iload_n 1, 1) := by decide +kernel
theorem d135_72 : decode prog_14_method_76_code 72 = .ok (.iadd, 1) := by decide +kernel
theorem d135_73 : decode prog_14_method_76_code 73 = .ok (.aload_n 0, 1) := by decide +kernel
theorem d135_74 : decode prog_14_method_76_code 74 = .ok (.getfield 113, 3) := by decide +kernel
theorem d135_77 : decode prog_14_method_76_code 77 = .ok (.iload_n 1, 1) := by decide +kernel
theorem d135_78 : decode prog_14_method_76_code 78 = .ok (.iaload, 1) := by decide +kernel
theorem d135_79 : decode prog_14_method_76_code 79 = .ok (.iastore, 1) := by decide +kernel
theorem d135_80 : decode prog_14_method_76_code 80 = .ok (.iinc 1 1, 3) := by decide +kernel
theorem d135_83 : decode prog_14_method_76_code 83 = .ok (.goto (-31), 3) := by decide +kernel
theorem d135_86 : decode prog_14_method_76_code 86 = .ok (.aload_n 0, 1) := by decide +kernel
theorem d135_87 : decode prog_14_method_76_code 87 = .ok (.dup, 1) := by decide +kernel
theorem d135_88 : decode prog_14_method_76_code 88 = .ok (.getfield 248, 3) := by decide +kernel
theorem d135_91 : decode prog_14_method_76_code 91 = .ok (.iconst 1, 1) := by decide +kernel
theorem d135_92 : decode prog_14_method_76_code 92 = .ok (.iadd, 1) := by decide +kernel
theorem d135_93 : decode prog_14_method_76_code 93 = .ok (.putfield 248, 3) := by decide +kernel
theorem d135_96 : decode prog_14_method_76_code 96 = .ok (.aload_n 0, 1) := by decide +kernel
theorem d135_97 : decode prog_14_method_76_code 97 = .ok (.invokevirtual 160, 3) := by decide +kernel
theorem d135_100 : decode prog_14_method_76_code 100 = .ok (.return_, 1) := by decide +kernel
noncomputable def T_135 : Nat → Option xF := bn 72 (bn 56 (bn 50 (bn 4 (bn 1 (bl 0 (x_aload 0 1)) (bl 1 (x_getf 12 59 4))) (bn 6 (bl 4 (x_const 2147483678 6)) (bl 6 (x_icmp 1 50 9)))) (bn 52 (bn 51 (bl 50 (x_const 2147483648 51)) (bl 51 (x_istore 1 52))) (bn 53 (bl 52 (x_iload 1 53)) (bl 53 (x_const 2147484038 56))))) (bn 66 (bn 60 (bn 59 (bl 56 (x_icmp 3 86 59)) (bl 59 (x_aload 0 60))) (bn 63 (bl 60 (x_getf 12 60 63)) (bl 63 (x_const 2147484038 66)))) (bn 70 (bn 67 (bl 66 (x_aload 0 67)) (bl 67 (x_getf 12 59 70))) (bn 71 (bl 70 (x_bin (xfg (fun x y => x * y)) 71)) (bl 71 (x_iload 1 72)))))) (bn 86 (bn 78 (bn 74 (bn 73 (bl 72 (x_bin xfadd 73)) (bl 73 (x_aload 0 74))) (bn 77 (bl 74 (x_getf 12 50 77)) (bl 77 (x_iload 1 78)))) (bn 80 (bn 79 (bl 78 (x_iald 79)) (bl 79 (x_iast 80))) (bn 83 (bl 80 (x_iinc 1 2147483649 83)) (bl 83 (x_goto 52))))) (bn 92 (bn 88 (bn 87 (bl 86 (x_aload 0 87)) (bl 87 (x_dup 88))) (bn 91 (bl 88 (x_getf 12 59 91)) (bl 91 (x_const 2147483649 92)))) (bn 96 (bn 93 (bl 92 (x_bin xfadd 93)) (bl 93 (x_putf 12 59 0 96))) (bn 97 (bl 96 (x_aload 0 97)) (bl 97 (x_invV 12 122 1 100))))))
set_option maxRecDepth 100000 in
set_option maxHeartbeats 4000000 in
theorem T_135_ok (G : State → Nat → Nat → Prop) : xTree PX G prog_14_method_76_code "CapitalCaseModel" false T_135 := (xT_n (xT_n (xT_n (xT_n (xT_n (xT_l (s_aload_n d135_0)) (xT_l (s_getf (T := TX12) (N := 70) d135_1 rfl inX12 (by decide) wd_1340))) (xT_n (xT_l (s_bipush d135_4 (by decide +kernel))) (xT_l (s_icmpne d135_6 (by decide +kernel))))) (xT_n (xT_n (xT_l (s_iconst d135_50 (by decide +kernel))) (xT_l (s_istore_n d135_51))) (xT_n (xT_l (s_iload_n d135_52)) (xT_l (s_sipush d135_53 (by decide +kernel)))))) (xT_n (xT_n (xT_n (xT_l (s_icmpge d135_56 (by decide +kernel))) (xT_l (s_aload_n d135_59))) (xT_n (xT_l (s_getf (T := TX12) (N := 70) d135_60 rfl inX12 (by decide) wd_1341)) (xT_l (s_sipush d135_63 (by decide +kernel))))) (xT_n (xT_n (xT_l (s_aload_n d135_66)) (xT_l (s_getf (T := TX12) (N := 70) d135_67 rfl inX12 (by decide) wd_1340))) (xT_n (xT_l (s_imul d135_70)) (xT_l (s_iload_n d135_71)))))) (xT_n (xT_n (xT_n (xT_n (xT_l (s_iadd d135_72)) (xT_l (s_aload_n d135_73))) (xT_n (xT_l (s_getf (T := TX12) (N := 70) d135_74 rfl inX12 (by decide) wd_1331)) (xT_l (s_iload_n d135_77)))) (xT_n (xT_n (xT_l (s_iald d135_78)) (xT_l (s_iast d135_79))) (xT_n (xT_l (s_iinc d135_80 (by decide +kernel))) (xT_l (s_goto d135_83 (by decide +kernel)))))) (xT_n (xT_n (xT_n (xT_l (s_aload_n d135_86)) (xT_l (s_dup d135_87))) (xT_n (xT_l (s_getf (T := TX12) (N := 70) d135_88 rfl inX12 (by decide) wd_1340)) (xT_l (s_iconst d135_91 (by decide +kernel))))) (xT_n (xT_n (xT_l (s_iadd d135_92)) (xT_l (s_putf (T := TX12) (N := 70) (ty := tyX12) d135_93 rfl inX12 tyX12_ok nmX12 (by decide) wd_1340 (Or.inl ⟨rfl, rfl⟩) rfl))) (xT_n (xT_l (s_aload_n d135_96)) (xT_l (s_invV (T := TX12) d135_97 cal_122 rfl wd_1278 wd_1280 wd_46)))))))
set_option maxRecDepth 100000 in
set_option maxHeartbeats 4000000 in
theorem M_135 : xMeth PX 135 (T_135, 2, [(100, 3)]) := ⟨⟨"CapitalCaseModel", "records", "()V"⟩, prog_14_method_76_code, none, rfl, by decide, fun G => T_135_ok G, xrt_ok (xR_c (Or.inr (Or.inr (Or.inl ⟨rfl, d135_100, rfl⟩))) (xR_n))⟩
theorem d136_0 : decode prog_14_method_112_code 0 = .ok (.iload_n 1, 1) := by decide +kernel
theorem d136_1 : decode prog_14_method_112_code 1 = .ok (.iconst 0, 1) := by decide +kernel
theorem d136_2 : decode prog_14_method_112_code 2 = .ok (.iconst 2, 1) := by decide +kernel
theorem d136_3 : decode prog_14_method_112_code 3 = .ok (.invokestatic 324, 3) := by decide +kernel
theorem d136_6 : decode prog_14_method_112_code 6 = .ok (.ifCond .eq 12, 3) := by decide +kernel
theorem d136_9 : decode prog_14_method_112_code 9 = .ok (.aload_n 0, 1) := by decide +kernel
theorem d136_10 : decode prog_14_method_112_code 10 = .ok (.getfield 143, 3) := by decide +kernel
theorem d136_13 : decode prog_14_method_112_code 13 = .ok (.iload_n 1, 1) := by decide +kernel
theorem d136_14 : decode prog_14_method_112_code 14 = .ok (.baload, 1) := by decide +kernel
theorem d136_15 : decode prog_14_method_112_code 15 = .ok (.ifCond .ne 5, 3) := by decide +kernel
theorem d136_18 : decode prog_14_method_112_code 18 = .ok (.iconst 0, 1) := by decide +kernel
theorem d136_19 : decode prog_14_method_112_code 19 = .ok (.ireturn, 1) := by decide +kernel
noncomputable def T_136 : Nat → Option xF := bn 9 (bn 2 (bn 1 (bl 0 (x_iload 1 1)) (bl 1 (x_const 2147483648 2))) (bn 3 (bl 2 (x_const 2147483650 3)) (bn 6 (bl 3 (x_inv 115 3 6)) (bl 6 (x_if 0 18 9))))) (bn 14 (bn 10 (bl 9 (x_aload 0 10)) (bn 13 (bl 10 (x_getf 12 68 13)) (bl 13 (x_iload 1 14)))) (bn 15 (bl 14 (x_bald 15)) (bn 18 (bl 15 (x_if 1 20 18)) (bl 18 (x_const 2147483648 19)))))
set_option maxRecDepth 100000 in
set_option maxHeartbeats 4000000 in
theorem T_136_ok (G : State → Nat → Nat → Prop) : xTree PX G prog_14_method_112_code "CapitalCaseModel" false T_136 := (xT_n (xT_n (xT_n (xT_l (s_iload_n d136_0)) (xT_l (s_iconst d136_1 (by decide +kernel)))) (xT_n (xT_l (s_iconst d136_2 (by decide +kernel))) (xT_n (xT_l (s_invS d136_3 cal_115 wd_1629 wd_1630)) (xT_l (s_ifeq d136_6 (by decide +kernel)))))) (xT_n (xT_n (xT_l (s_aload_n d136_9)) (xT_n (xT_l (s_getf (T := TX12) (N := 70) d136_10 rfl inX12 (by decide) wd_1349)) (xT_l (s_iload_n d136_13)))) (xT_n (xT_l (s_bald d136_14)) (xT_n (xT_l (s_ifne d136_15 (by decide +kernel))) (xT_l (s_iconst d136_18 (by decide +kernel)))))))
set_option maxRecDepth 100000 in
set_option maxHeartbeats 4000000 in
theorem M_136 : xMeth PX 136 (T_136, 3, [(19, 2)]) := ⟨⟨"CapitalCaseModel", "restore", "(I)Z"⟩, prog_14_method_112_code, (some .boolean), rfl, by decide, fun G => T_136_ok G, xrt_ok (xR_c (Or.inr (Or.inl ⟨rfl, d136_19, rfl⟩)) (xR_n))⟩
theorem d137_0 : decode prog_14_method_77_code 0 = .ok (.aload_n 0, 1) := by decide +kernel
theorem d137_1 : decode prog_14_method_77_code 1 = .ok (.iload_n 1, 1) := by decide +kernel
theorem d137_2 : decode prog_14_method_77_code 2 = .ok (.invokevirtual 417, 3) := by decide +kernel
theorem d137_5 : decode prog_14_method_77_code 5 = .ok (.ifCond .ne 5, 3) := by decide +kernel
theorem d137_8 : decode prog_14_method_77_code 8 = .ok (.iconst 0, 1) := by decide +kernel
theorem d137_9 : decode prog_14_method_77_code 9 = .ok (.ireturn, 1) := by decide +kernel
noncomputable def T_137 : Nat → Option xF := bn 2 (bn 1 (bl 0 (x_aload 0 1)) (bl 1 (x_iload 1 2))) (bn 5 (bl 2 (x_invV 12 120 2 5)) (bn 8 (bl 5 (x_if 1 10 8)) (bl 8 (x_const 2147483648 9))))
set_option maxRecDepth 100000 in
set_option maxHeartbeats 4000000 in
theorem T_137_ok (G : State → Nat → Nat → Prop) : xTree PX G prog_14_method_77_code "CapitalCaseModel" false T_137 := (xT_n (xT_n (xT_l (s_aload_n d137_0)) (xT_l (s_iload_n d137_1))) (xT_n (xT_l (s_invV (T := TX12) d137_2 cal_120 rfl wd_1678 wd_1680 wd_82)) (xT_n (xT_l (s_ifne d137_5 (by decide +kernel))) (xT_l (s_iconst d137_8 (by decide +kernel))))))
set_option maxRecDepth 100000 in
set_option maxHeartbeats 4000000 in
theorem M_137 : xMeth PX 137 (T_137, 2, [(9, 2)]) := ⟨⟨"CapitalCaseModel", "set", "(I)Z"⟩, prog_14_method_77_code, (some .boolean), rfl, by decide, fun G => T_137_ok G, xrt_ok (xR_c (Or.inr (Or.inl ⟨rfl, d137_9, rfl⟩)) (xR_n))⟩
theorem d138_0 : decode prog_14_method_98_code 0 = .ok (.iload_n 1, 1) := by decide +kernel
theorem d138_1 : decode prog_14_method_98_code 1 = .ok (.iconst 0, 1) := by decide +kernel
theorem d138_2 : decode prog_14_method_98_code 2 = .ok (.sipush 255, 3) := by decide +kernel
theorem d138_5 : decode prog_14_method_98_code 5 = .ok (.invokestatic 324, 3) := by decide +kernel
theorem d138_8 : decode prog_14_method_98_code 8 = .ok (.ifCond .ne 5, 3) := by decide +kernel
theorem d138_11 : decode prog_14_method_98_code 11 = .ok (.iconst (-1), 1) := by decide +kernel
theorem d138_12 : decode prog_14_method_98_code 12 = .ok (.ireturn, 1) := by decide +kernel
theorem d138_13 : decode prog_14_method_98_code 13 = .ok (.aload_n 0, 1) := by decide +kernel
theorem d138_14 : decode prog_14_method_98_code 14 = .ok (.invokevirtual 411, 3) := by decide +kernel
theorem d138_17 : decode prog_14_method_98_code 17 = .ok (.aload_n 0, 1) := by decide +kernel
theorem d138_18 : decode prog_14_method_98_code 18 = .ok (.invokevirtual 436, 3) := by decide +kernel
theorem d138_21 : decode prog_14_method_98_code 21 = .ok (.istore_n 2, 1) := by decide +kernel
theorem d138_22 : decode prog_14_method_98_code 22 = .ok (.iconst 0, 1) := by decide +kernel
theorem d138_23 : decode prog_14_method_98_code 23 = .ok (.istore_n 3, 1) := by decide +kernel
theorem d138_24 : decode prog_14_method_98_code 24 = .ok (.iload_n 3, 1) := by decide +kernel
theorem d138_25 : decode prog_14_method_98_code 25 = .ok (.aload_n 0, 1) := by decide +kernel
theorem d138_26 : decode prog_14_method_98_code 26 = .ok (.getfield 49, 3) := by decide +kernel
theorem d138_29 : decode prog_14_method_98_code 29 = .ok (.aload_n 0, 1) := by decide +kernel
theorem d138_30 : decode prog_14_method_98_code 30 = .ok (.getfield 230, 3) := by decide +kernel
theorem d138_33 : decode prog_14_method_98_code 33 = .ok (.iaload, 1) := by decide +kernel
theorem d138_34 : decode prog_14_method_98_code 34 = .ok (.if_icmp .ge 53, 3) := by decide +kernel
theorem d138_87 : decode prog_14_method_98_code 87 = .ok (.iload_n 2, 1) := by decide +kernel
theorem d138_88 : decode prog_14_method_98_code 88 = .ok (.ireturn, 1) := by decide +kernel
noncomputable def T_138 : Nat → Option xF := bn 21 (bn 11 (bn 2 (bn 1 (bl 0 (x_iload 1 1)) (bl 1 (x_const 2147483648 2))) (bn 5 (bl 2 (x_const 2147483903 5)) (bn 8 (bl 5 (x_inv 115 3 8)) (bl 8 (x_if 1 13 11))))) (bn 14 (bn 13 (bl 11 (x_const 2147483647 12)) (bl 13 (x_aload 0 14))) (bn 17 (bl 14 (x_invV 12 101 1 17)) (bn 18 (bl 17 (x_aload 0 18)) (bl 18 (x_invV 12 128 1 21)))))) (bn 26 (bn 23 (bn 22 (bl 21 (x_istore 2 22)) (bl 22 (x_const 2147483648 23))) (bn 24 (bl 23 (x_istore 3 24)) (bn 25 (bl 24 (x_iload 3 25)) (bl 25 (x_aload 0 26))))) (bn 33 (bn 29 (bl 26 (x_getf 12 24 29)) (bn 30 (bl 29 (x_aload 0 30)) (bl 30 (x_getf 12 18 33)))) (bn 34 (bl 33 (x_iald 34)) (bn 87 (bl 34 (x_icmp 3 87 37)) (bl 87 (x_iload 2 88))))))
set_option maxRecDepth 100000 in
set_option maxHeartbeats 4000000 in
theorem T_138_ok (G : State → Nat → Nat → Prop) : xTree PX G prog_14_method_98_code "CapitalCaseModel" false T_138 := (xT_n (xT_n (xT_n (xT_n (xT_l (s_iload_n d138_0)) (xT_l (s_iconst d138_1 (by decide +kernel)))) (xT_n (xT_l (s_sipush d138_2 (by decide +kernel))) (xT_n (xT_l (s_invS d138_5 cal_115 wd_1629 wd_1630)) (xT_l (s_ifne d138_8 (by decide +kernel)))))) (xT_n (xT_n (xT_l (s_iconst d138_11 (by decide +kernel))) (xT_l (s_aload_n d138_13))) (xT_n (xT_l (s_invV (T := TX12) d138_14 cal_101 rfl wd_1635 wd_1637 wd_73)) (xT_n (xT_l (s_aload_n d138_17)) (xT_l (s_invV (T := TX12) d138_18 cal_128 rfl wd_1798 wd_1800 wd_100)))))) (xT_n (xT_n (xT_n (xT_l (s_istore_n d138_21)) (xT_l (s_iconst d138_22 (by decide +kernel)))) (xT_n (xT_l (s_istore_n d138_23)) (xT_n (xT_l (s_iload_n d138_24)) (xT_l (s_aload_n d138_25))))) (xT_n (xT_n (xT_l (s_getf (T := TX12) (N := 70) d138_26 rfl inX12 (by decide) wd_1305)) (xT_n (xT_l (s_aload_n d138_29)) (xT_l (s_getf (T := TX12) (N := 70) d138_30 rfl inX12 (by decide) wd_1299)))) (xT_n (xT_l (s_iald d138_33)) (xT_n (xT_l (s_icmpge d138_34 (by decide +kernel))) (xT_l (s_iload_n d138_87)))))))
set_option maxRecDepth 100000 in
set_option maxHeartbeats 4000000 in
theorem M_138 : xMeth PX 138 (T_138, 5, [(12, 1), (88, 1)]) := ⟨⟨"CapitalCaseModel", "strike", "(I)I"⟩, prog_14_method_98_code, (some .int), rfl, by decide, fun G => T_138_ok G, xrt_ok (xR_c (Or.inl ⟨rfl, d138_12, rfl⟩) (xR_c (Or.inl ⟨rfl, d138_88, rfl⟩) (xR_n)))⟩
theorem d139_0 : decode prog_14_method_113_code 0 = .ok (.iconst 0, 1) := by decide +kernel
theorem d139_1 : decode prog_14_method_113_code 1 = .ok (.istore_n 3, 1) := by decide +kernel
theorem d139_2 : decode prog_14_method_113_code 2 = .ok (.iload_n 1, 1) := by decide +kernel
theorem d139_3 : decode prog_14_method_113_code 3 = .ok (.istore 4, 2) := by decide +kernel
theorem d139_5 : decode prog_14_method_113_code 5 = .ok (.iload 4, 2) := by decide +kernel
theorem d139_7 : decode prog_14_method_113_code 7 = .ok (.iload_n 1, 1) := by decide +kernel
theorem d139_8 : decode prog_14_method_113_code 8 = .ok (.iload_n 2, 1) := by decide +kernel
theorem d139_9 : decode prog_14_method_113_code 9 = .ok (.iadd, 1) := by decide +kernel
theorem d139_10 : decode prog_14_method_113_code 10 = .ok (.if_icmp .ge 19, 3) := by decide +kernel
theorem d139_13 : decode prog_14_method_113_code 13 = .ok (.iload_n 3, 1) := by decide +kernel
theorem d139_14 : decode prog_14_method_113_code 14 = .ok (.aload_n 0, 1) := by decide +kernel
theorem d139_15 : decode prog_14_method_113_code 15 = .ok (.getfield 113, 3) := by decide +kernel
theorem d139_18 : decode prog_14_method_113_code 18 = .ok (.iload 4, 2) := by decide +kernel
theorem d139_20 : decode prog_14_method_113_code 20 = .ok (.iaload, 1) := by decide +kernel
theorem d139_21 : decode prog_14_method_113_code 21 = .ok (.iadd, 1) := by decide +kernel
theorem d139_22 : decode prog_14_method_113_code 22 = .ok (.istore_n 3, 1) := by decide +kernel
theorem d139_23 : decode prog_14_method_113_code 23 = .ok (.iinc 4 1, 3) := by decide +kernel
theorem d139_26 : decode prog_14_method_113_code 26 = .ok (.goto (-21), 3) := by decide +kernel
theorem d139_29 : decode prog_14_method_113_code 29 = .ok (.iload_n 3, 1) := by decide +kernel
theorem d139_30 : decode prog_14_method_113_code 30 = .ok (.ireturn, 1) := by decide +kernel
noncomputable def T_139 : Nat → Option xF := bn 13 (bn 5 (bn 2 (bn 1 (bl 0 (x_const 2147483648 1)) (bl 1 (x_istore 3 2))) (bn 3 (bl 2 (x_iload 1 3)) (bl 3 (x_istore 4 5)))) (bn 8 (bn 7 (bl 5 (x_iload 4 7)) (bl 7 (x_iload 1 8))) (bn 9 (bl 8 (x_iload 2 9)) (bn 10 (bl 9 (x_bin xfadd 10)) (bl 10 (x_icmp 3 29 13)))))) (bn 21 (bn 15 (bn 14 (bl 13 (x_iload 3 14)) (bl 14 (x_aload 0 15))) (bn 18 (bl 15 (x_getf 12 50 18)) (bn 20 (bl 18 (x_iload 4 20)) (bl 20 (x_iald 21))))) (bn 23 (bn 22 (bl 21 (x_bin xfadd 22)) (bl 22 (x_istore 3 23))) (bn 26 (bl 23 (x_iinc 4 2147483649 26)) (bn 29 (bl 26 (x_goto 5)) (bl 29 (x_iload 3 30))))))
set_option maxRecDepth 100000 in
set_option maxHeartbeats 4000000 in
theorem T_139_ok (G : State → Nat → Nat → Prop) : xTree PX G prog_14_method_113_code "CapitalCaseModel" false T_139 := (xT_n (xT_n (xT_n (xT_n (xT_l (s_iconst d139_0 (by decide +kernel))) (xT_l (s_istore_n d139_1))) (xT_n (xT_l (s_iload_n d139_2)) (xT_l (s_istore d139_3)))) (xT_n (xT_n (xT_l (s_iload d139_5)) (xT_l (s_iload_n d139_7))) (xT_n (xT_l (s_iload_n d139_8)) (xT_n (xT_l (s_iadd d139_9)) (xT_l (s_icmpge d139_10 (by decide +kernel))))))) (xT_n (xT_n (xT_n (xT_l (s_iload_n d139_13)) (xT_l (s_aload_n d139_14))) (xT_n (xT_l (s_getf (T := TX12) (N := 70) d139_15 rfl inX12 (by decide) wd_1331)) (xT_n (xT_l (s_iload d139_18)) (xT_l (s_iald d139_20))))) (xT_n (xT_n (xT_l (s_iadd d139_21)) (xT_l (s_istore_n d139_22))) (xT_n (xT_l (s_iinc d139_23 (by decide +kernel))) (xT_n (xT_l (s_goto d139_26 (by decide +kernel))) (xT_l (s_iload_n d139_29)))))))
set_option maxRecDepth 100000 in
set_option maxHeartbeats 4000000 in
theorem M_139 : xMeth PX 139 (T_139, 5, [(30, 1)]) := ⟨⟨"CapitalCaseModel", "sumNow", "(II)I"⟩, prog_14_method_113_code, (some .int), rfl, by decide, fun G => T_139_ok G, xrt_ok (xR_c (Or.inl ⟨rfl, d139_30, rfl⟩) (xR_n))⟩
theorem d140_0 : decode prog_14_method_106_code 0 = .ok (.aload_n 0, 1) := by decide +kernel
theorem d140_1 : decode prog_14_method_106_code 1 = .ok (.getfield 251, 3) := by decide +kernel
theorem d140_4 : decode prog_14_method_106_code 4 = .ok (.bipush 20, 2) := by decide +kernel
theorem d140_6 : decode prog_14_method_106_code 6 = .ok (.if_icmp .eq 21, 3) := by decide +kernel
theorem d140_9 : decode prog_14_method_106_code 9 = .ok (.iload_n 1, 1) := by decide +kernel
theorem d140_10 : decode prog_14_method_106_code 10 = .ok (.invokestatic 408, 3) := by decide +kernel
theorem d140_13 : decode prog_14_method_106_code 13 = .ok (.ifCond .eq 14, 3) := by decide +kernel
theorem d140_16 : decode prog_14_method_106_code 16 = .ok (.iload_n 2, 1) := by decide +kernel
theorem d140_17 : decode prog_14_method_106_code 17 = .ok (.iconst 0, 1) := by decide +kernel
theorem d140_18 : decode prog_14_method_106_code 18 = .ok (.sipush 999, 3) := by decide +kernel
theorem d140_21 : decode prog_14_method_106_code 21 = .ok (.invokestatic 324, 3) := by decide +kernel
theorem d140_24 : decode prog_14_method_106_code 24 = .ok (.ifCond .ne 5, 3) := by decide +kernel
theorem d140_27 : decode prog_14_method_106_code 27 = .ok (.iconst (-1), 1) := by decide +kernel
theorem d140_28 : decode prog_14_method_106_code 28 = .ok (.ireturn, 1) := by decide +kernel
theorem d140_29 : decode prog_14_method_106_code 29 = .ok (.aload_n 0, 1) := by decide +kernel
theorem d140_30 : decode prog_14_method_106_code 30 = .ok (.getfield 134, 3) := by decide +kernel
theorem d140_33 : decode prog_14_method_106_code 33 = .ok (.aload_n 0, 1) := by decide +kernel
theorem d140_34 : decode prog_14_method_106_code 34 = .ok (.getfield 251, 3) := by decide +kernel
theorem d140_37 : decode prog_14_method_106_code 37 = .ok (.iload_n 1, 1) := by decide +kernel
theorem d140_38 : decode prog_14_method_106_code 38 = .ok (.iastore, 1) := by decide +kernel
theorem d140_39 : decode prog_14_method_106_code 39 = .ok (.aload_n 0, 1) := by decide +kernel
theorem d140_40 : decode prog_14_method_106_code 40 = .ok (.getfield 137, 3) := by decide +kernel
theorem d140_43 : decode prog_14_method_106_code 43 = .ok (.aload_n 0, 1) := by decide +kernel
theorem d140_44 : decode prog_14_method_106_code 44 = .ok (.getfield 251, 3) := by decide +kernel
theorem d140_47 : decode prog_14_method_106_code 47 = .ok (.iload_n 2, 1) := by decide +kernel
theorem d140_48 : decode prog_14_method_106_code 48 = .ok (.iastore, 1) := by decide +kernel
theorem d140_49 : decode prog_14_method_106_code 49 = .ok (.aload_n 0, 1) := by decide +kernel
theorem d140_50 : decode prog_14_method_106_code 50 = .ok (.getfield 140, 3) := by decide +kernel
theorem d140_53 : decode prog_14_method_106_code 53 = .ok (.aload_n 0, 1) := by decide +kernel
theorem d140_54 : decode prog_14_method_106_code 54 = .ok (.getfield 251, 3) := by decide +kernel
theorem d140_57 : decode prog_14_method_106_code 57 = .ok (.iload_n 3, 1) := by decide +kernel
theorem d140_58 : decode prog_14_method_106_code 58 = .ok (.bastore, 1) := by decide +kernel
theorem d140_59 : decode prog_14_method_106_code 59 = .ok (.aload_n 0, 1) := by decide +kernel
theorem d140_60 : decode prog_14_method_106_code 60 = .ok (.dup, 1) := by decide +kernel
theorem d140_61 : decode prog_14_method_106_code 61 = .ok (.getfield 251, 3) := by decide +kernel
theorem d140_64 : decode prog_14_method_106_code 64 = .ok (.iconst 1, 1) := by decide +kernel
theorem d140_65 : decode prog_14_method_106_code 65 = .ok (.iadd, 1) := by decide +kernel
theorem d140_66 : decode prog_14_method_106_code 66 = .ok (.putfield 251, 3) := by decide +kernel
theorem d140_69 : decode prog_14_method_106_code 69 = .ok (.aload_n 0, 1) := by decide +kernel
theorem d140_70 : decode prog_14_method_106_code 70 = .ok (.getfield 251, 3) := by decide +kernel
theorem d140_73 : decode prog_14_method_106_code 73 = .ok (.iconst 1, 1) := by decide +kernel
theorem d140_74 : decode prog_14_method_106_code 74 = .ok (.isub, 1) := by decide +kernel
theorem d140_75 : decode prog_14_method_106_code 75 = .ok (.ireturn, 1) := by decide +kernel
noncomputable def T_140 : Nat → Option xF := bn 40 (bn 21 (bn 10 (bn 4 (bn 1 (bl 0 (x_aload 0 1)) (bl 1 (x_getf 12 64 4))) (bn 6 (bl 4 (x_const 2147483668 6)) (bn 9 (bl 6 (x_icmp 0 27 9)) (bl 9 (x_iload 1 10))))) (bn 16 (bn 13 (bl 10 (x_inv 119 1 13)) (bl 13 (x_if 0 27 16))) (bn 17 (bl 16 (x_iload 2 17)) (bn 18 (bl 17 (x_const 2147483648 18)) (bl 18 (x_const 2147484647 21)))))) (bn 33 (bn 27 (bn 24 (bl 21 (x_inv 115 3 24)) (bl 24 (x_if 1 29 27))) (bn 29 (bl 27 (x_const 2147483647 28)) (bn 30 (bl 29 (x_aload 0 30)) (bl 30 (x_getf 12 65 33))))) (bn 37 (bn 34 (bl 33 (x_aload 0 34)) (bl 34 (x_getf 12 64 37))) (bn 38 (bl 37 (x_iload 1 38)) (bn 39 (bl 38 (x_iast 39)) (bl 39 (x_aload 0 40))))))) (bn 58 (bn 49 (bn 44 (bn 43 (bl 40 (x_getf 12 66 43)) (bl 43 (x_aload 0 44))) (bn 47 (bl 44 (x_getf 12 64 47)) (bn 48 (bl 47 (x_iload 2 48)) (bl 48 (x_iast 49))))) (bn 53 (bn 50 (bl 49 (x_aload 0 50)) (bl 50 (x_getf 12 67 53))) (bn 54 (bl 53 (x_aload 0 54)) (bn 57 (bl 54 (x_getf 12 64 57)) (bl 57 (x_iload 3 58)))))) (bn 65 (bn 60 (bn 59 (bl 58 (x_bast 59)) (bl 59 (x_aload 0 60))) (bn 61 (bl 60 (x_dup 61)) (bn 64 (bl 61 (x_getf 12 64 64)) (bl 64 (x_const 2147483649 65))))) (bn 70 (bn 66 (bl 65 (x_bin xfadd 66)) (bn 69 (bl 66 (x_putf 12 64 0 69)) (bl 69 (x_aload 0 70)))) (bn 73 (bl 70 (x_getf 12 64 73)) (bn 74 (bl 73 (x_const 2147483649 74)) (bl 74 (x_bin xfsub 75)))))))
set_option maxRecDepth 100000 in
set_option maxHeartbeats 4000000 in
theorem T_140_ok (G : State → Nat → Nat → Prop) : xTree PX G prog_14_method_106_code "CapitalCaseModel" false T_140 := (xT_n (xT_n (xT_n (xT_n (xT_n (xT_l (s_aload_n d140_0)) (xT_l (s_getf (T := TX12) (N := 70) d140_1 rfl inX12 (by decide) wd_1345))) (xT_n (xT_l (s_bipush d140_4 (by decide +kernel))) (xT_n (xT_l (s_icmpeq d140_6 (by decide +kernel))) (xT_l (s_iload_n d140_9))))) (xT_n (xT_n (xT_l (s_invS d140_10 cal_119 wd_1632 wd_1633)) (xT_l (s_ifeq d140_13 (by decide +kernel)))) (xT_n (xT_l (s_iload_n d140_16)) (xT_n (xT_l (s_iconst d140_17 (by decide +kernel))) (xT_l (s_sipush d140_18 (by decide +kernel))))))) (xT_n (xT_n (xT_n (xT_l (s_invS d140_21 cal_115 wd_1629 wd_1630)) (xT_l (s_ifne d140_24 (by decide +kernel)))) (xT_n (xT_l (s_iconst d140_27 (by decide +kernel))) (xT_n (xT_l (s_aload_n d140_29)) (xT_l (s_getf (T := TX12) (N := 70) d140_30 rfl inX12 (by decide) wd_1346))))) (xT_n (xT_n (xT_l (s_aload_n d140_33)) (xT_l (s_getf (T := TX12) (N := 70) d140_34 rfl inX12 (by decide) wd_1345))) (xT_n (xT_l (s_iload_n d140_37)) (xT_n (xT_l (s_iast d140_38)) (xT_l (s_aload_n d140_39))))))) (xT_n (xT_n (xT_n (xT_n (xT_l (s_getf (T := TX12) (N := 70) d140_40 rfl inX12 (by decide) wd_1347)) (xT_l (s_aload_n d140_43))) (xT_n (xT_l (s_getf (T := TX12) (N := 70) d140_44 rfl inX12 (by decide) wd_1345)) (xT_n (xT_l (s_iload_n d140_47)) (xT_l (s_iast d140_48))))) (xT_n (xT_n (xT_l (s_aload_n d140_49)) (xT_l (s_getf (T := TX12) (N := 70) d140_50 rfl inX12 (by decide) wd_1348))) (xT_n (xT_l (s_aload_n d140_53)) (xT_n (xT_l (s_getf (T := TX12) (N := 70) d140_54 rfl inX12 (by decide) wd_1345)) (xT_l (s_iload_n d140_57)))))) (xT_n (xT_n (xT_n (xT_l (s_bast d140_58)) (xT_l (s_aload_n d140_59))) (xT_n (xT_l (s_dup d140_60)) (xT_n (xT_l (s_getf (T := TX12) (N := 70) d140_61 rfl inX12 (by decide) wd_1345)) (xT_l (s_iconst d140_64 (by decide +kernel)))))) (xT_n (xT_n (xT_l (s_iadd d140_65)) (xT_n (xT_l (s_putf (T := TX12) (N := 70) (ty := tyX12) d140_66 rfl inX12 tyX12_ok nmX12 (by decide) wd_1345 (Or.inl ⟨rfl, rfl⟩) rfl)) (xT_l (s_aload_n d140_69)))) (xT_n (xT_l (s_getf (T := TX12) (N := 70) d140_70 rfl inX12 (by decide) wd_1345)) (xT_n (xT_l (s_iconst d140_73 (by decide +kernel))) (xT_l (s_isub d140_74))))))))
set_option maxRecDepth 100000 in
set_option maxHeartbeats 4000000 in
theorem M_140 : xMeth PX 140 (T_140, 4, [(28, 1), (75, 1)]) := ⟨⟨"CapitalCaseModel", "tell", "(IIZ)I"⟩, prog_14_method_106_code, (some .int), rfl, by decide, fun G => T_140_ok G, xrt_ok (xR_c (Or.inl ⟨rfl, d140_28, rfl⟩) (xR_c (Or.inl ⟨rfl, d140_75, rfl⟩) (xR_n)))⟩
theorem d141_0 : decode prog_14_method_75_code 0 = .ok (.aload_n 0, 1) := by decide +kernel
theorem d141_1 : decode prog_14_method_75_code 1 = .ok (.iload_n 1, 1) := by decide +kernel
theorem d141_2 : decode prog_14_method_75_code 2 = .ok (.invokevirtual 405, 3) := by decide +kernel
theorem d141_5 : decode prog_14_method_75_code 5 = .ok (.ifCond .eq 28, 3) := by decide +kernel
theorem d141_33 : decode prog_14_method_75_code 33 = .ok (.ldc_w 420, 3) := by decide +kernel
theorem d141_36 : decode prog_14_method_75_code 36 = .ok (.ireturn, 1) := by decide +kernel
noncomputable def T_141 : Nat → Option xF := bn 2 (bn 1 (bl 0 (x_aload 0 1)) (bl 1 (x_iload 1 2))) (bn 5 (bl 2 (x_invV 12 117 2 5)) (bn 33 (bl 5 (x_if 0 33 8)) (bl 33 (x_const 1147483648 36))))
set_option maxRecDepth 100000 in
set_option maxHeartbeats 4000000 in
theorem T_141_ok (G : State → Nat → Nat → Prop) : xTree PX G prog_14_method_75_code "CapitalCaseModel" false T_141 := (xT_n (xT_n (xT_l (s_aload_n d141_0)) (xT_l (s_iload_n d141_1))) (xT_n (xT_l (s_invV (T := TX12) d141_2 cal_117 rfl wd_1625 wd_1627 wd_72)) (xT_n (xT_l (s_ifeq d141_5 (by decide +kernel))) (xT_l (s_ldcw d141_33 wd_1698 (by decide +kernel))))))
set_option maxRecDepth 100000 in
set_option maxHeartbeats 4000000 in
theorem M_141 : xMeth PX 141 (T_141, 5, [(36, 1)]) := ⟨⟨"CapitalCaseModel", "tells", "(IIII)I"⟩, prog_14_method_75_code, (some .int), rfl, by decide, fun G => T_141_ok G, xrt_ok (xR_c (Or.inl ⟨rfl, d141_36, rfl⟩) (xR_n))⟩
theorem d142_0 : decode prog_14_method_103_code 0 = .ok (.aload_n 0, 1) := by decide +kernel
theorem d142_1 : decode prog_14_method_103_code 1 = .ok (.iload_n 1, 1) := by decide +kernel
theorem d142_2 : decode prog_14_method_103_code 2 = .ok (.invokevirtual 405, 3) := by decide +kernel
theorem d142_5 : decode prog_14_method_103_code 5 = .ok (.ifCond .eq 27, 3) := by decide +kernel
theorem d142_32 : decode prog_14_method_103_code 32 = .ok (.iconst (-1), 1) := by decide +kernel
theorem d142_33 : decode prog_14_method_103_code 33 = .ok (.ireturn, 1) := by decide +kernel
noncomputable def T_142 : Nat → Option xF := bn 2 (bn 1 (bl 0 (x_aload 0 1)) (bl 1 (x_iload 1 2))) (bn 5 (bl 2 (x_invV 12 117 2 5)) (bn 32 (bl 5 (x_if 0 32 8)) (bl 32 (x_const 2147483647 33))))
set_option maxRecDepth 100000 in
set_option maxHeartbeats 4000000 in
theorem T_142_ok (G : State → Nat → Nat → Prop) : xTree PX G prog_14_method_103_code "CapitalCaseModel" false T_142 := (xT_n (xT_n (xT_l (s_aload_n d142_0)) (xT_l (s_iload_n d142_1))) (xT_n (xT_l (s_invV (T := TX12) d142_2 cal_117 rfl wd_1625 wd_1627 wd_72)) (xT_n (xT_l (s_ifeq d142_5 (by decide +kernel))) (xT_l (s_iconst d142_32 (by decide +kernel))))))
set_option maxRecDepth 100000 in
set_option maxHeartbeats 4000000 in
theorem M_142 : xMeth PX 142 (T_142, 5, [(33, 1)]) := ⟨⟨"CapitalCaseModel", "then", "(IIII)I"⟩, prog_14_method_103_code, (some .int), rfl, by decide, fun G => T_142_ok G, xrt_ok (xR_c (Or.inl ⟨rfl, d142_33, rfl⟩) (xR_n))⟩
theorem d143_0 : decode prog_14_method_11_code 0 = .ok (.aload_n 0, 1) := by decide +kernel
theorem d143_1 : decode prog_14_method_11_code 1 = .ok (.getfield 20, 3) := by decide +kernel
theorem d143_4 : decode prog_14_method_11_code 4 = .ok (.aload_n 0, 1) := by decide +kernel
theorem d143_5 : decode prog_14_method_11_code 5 = .ok (.getfield 178, 3) := by decide +kernel
theorem d143_8 : decode prog_14_method_11_code 8 = .ok (.iload_n 1, 1) := by decide +kernel
theorem d143_9 : decode prog_14_method_11_code 9 = .ok (.iastore, 1) := by decide +kernel
theorem d143_10 : decode prog_14_method_11_code 10 = .ok (.aload_n 0, 1) := by decide +kernel
theorem d143_11 : decode prog_14_method_11_code 11 = .ok (.getfield 24, 3) := by decide +kernel
theorem d143_14 : decode prog_14_method_11_code 14 = .ok (.aload_n 0, 1) := by decide +kernel
theorem d143_15 : decode prog_14_method_11_code 15 = .ok (.getfield 178, 3) := by decide +kernel
theorem d143_18 : decode prog_14_method_11_code 18 = .ok (.iload_n 2, 1) := by decide +kernel
theorem d143_19 : decode prog_14_method_11_code 19 = .ok (.iastore, 1) := by decide +kernel
theorem d143_20 : decode prog_14_method_11_code 20 = .ok (.aload_n 0, 1) := by decide +kernel
theorem d143_21 : decode prog_14_method_11_code 21 = .ok (.getfield 27, 3) := by decide +kernel
theorem d143_24 : decode prog_14_method_11_code 24 = .ok (.aload_n 0, 1) := by decide +kernel
theorem d143_25 : decode prog_14_method_11_code 25 = .ok (.getfield 178, 3) := by decide +kernel
theorem d143_28 : decode prog_14_method_11_code 28 = .ok (.iload_n 3, 1) := by decide +kernel
theorem d143_29 : decode prog_14_method_11_code 29 = .ok (.iastore, 1) := by decide +kernel
theorem d143_30 : decode prog_14_method_11_code 30 = .ok (.aload_n 0, 1) := by decide +kernel
theorem d143_31 : decode prog_14_method_11_code 31 = .ok (.getfield 30, 3) := by decide +kernel
theorem d143_34 : decode prog_14_method_11_code 34 = .ok (.aload_n 0, 1) := by decide +kernel
theorem d143_35 : decode prog_14_method_11_code 35 = .ok (.getfield 178, 3) := by decide +kernel
theorem d143_38 : decode prog_14_method_11_code 38 = .ok (.lload 4, 2) := by decide +kernel
theorem d143_40 : decode prog_14_method_11_code 40 = .ok (.lastore, 1) := by decide +kernel
theorem d143_41 : decode prog_14_method_11_code 41 = .ok (.aload_n 0, 1) := by decide +kernel
theorem d143_42 : decode prog_14_method_11_code 42 = .ok (.dup, 1) := by decide +kernel
theorem d143_43 : decode prog_14_method_11_code 43 = .ok (.getfield 178, 3) := by decide +kernel
theorem d143_46 : decode prog_14_method_11_code 46 = .ok (.iconst 1, 1) := by decide +kernel
theorem d143_47 : decode prog_14_method_11_code 47 = .ok (.iadd, 1) := by decide +kernel
theorem d143_48 : decode prog_14_method_11_code 48 = .ok (.putfield 178, 3) := by decide +kernel
theorem d143_51 : decode prog_14_method_11_code 51 = .ok (.return_, 1) := by decide +kernel
noncomputable def T_143 : Nat → Option xF := bn 25 (bn 11 (bn 5 (bn 1 (bl 0 (x_aload 0 1)) (bn 4 (bl 1 (x_getf 12 5 4)) (bl 4 (x_aload 0 5)))) (bn 9 (bn 8 (bl 5 (x_getf 12 10 8)) (bl 8 (x_iload 1 9))) (bn 10 (bl 9 (x_iast 10)) (bl 10 (x_aload 0 11))))) (bn 19 (bn 15 (bn 14 (bl 11 (x_getf 12 6 14)) (bl 14 (x_aload 0 15))) (bn 18 (bl 15 (x_getf 12 10 18)) (bl 18 (x_iload 2 19)))) (bn 21 (bn 20 (bl 19 (x_iast 20)) (bl 20 (x_aload 0 21))) (bn 24 (bl 21 (x_getf 12 7 24)) (bl 24 (x_aload 0 25)))))) (bn 38 (bn 30 (bn 28 (bl 25 (x_getf 12 10 28)) (bn 29 (bl 28 (x_iload 3 29)) (bl 29 (x_iast 30)))) (bn 34 (bn 31 (bl 30 (x_aload 0 31)) (bl 31 (x_getf 12 8 34))) (bn 35 (bl 34 (x_aload 0 35)) (bl 35 (x_getf 12 10 38))))) (bn 43 (bn 41 (bn 40 (bl 38 (x_lload 4 40)) (bl 40 (x_last 41))) (bn 42 (bl 41 (x_aload 0 42)) (bl 42 (x_dup 43)))) (bn 47 (bn 46 (bl 43 (x_getf 12 10 46)) (bl 46 (x_const 2147483649 47))) (bn 48 (bl 47 (x_bin xfadd 48)) (bl 48 (x_putf 12 10 0 51))))))
set_option maxRecDepth 100000 in
set_option maxHeartbeats 4000000 in
theorem T_143_ok (G : State → Nat → Nat → Prop) : xTree PX G prog_14_method_11_code "CapitalCaseModel" false T_143 := (xT_n (xT_n (xT_n (xT_n (xT_l (s_aload_n d143_0)) (xT_n (xT_l (s_getf (T := TX12) (N := 70) d143_1 rfl inX12 (by decide) wd_1286)) (xT_l (s_aload_n d143_4)))) (xT_n (xT_n (xT_l (s_getf (T := TX12) (N := 70) d143_5 rfl inX12 (by decide) wd_1291)) (xT_l (s_iload_n d143_8))) (xT_n (xT_l (s_iast d143_9)) (xT_l (s_aload_n d143_10))))) (xT_n (xT_n (xT_n (xT_l (s_getf (T := TX12) (N := 70) d143_11 rfl inX12 (by decide) wd_1287)) (xT_l (s_aload_n d143_14))) (xT_n (xT_l (s_getf (T := TX12) (N := 70) d143_15 rfl inX12 (by decide) wd_1291)) (xT_l (s_iload_n d143_18)))) (xT_n (xT_n (xT_l (s_iast d143_19)) (xT_l (s_aload_n d143_20))) (xT_n (xT_l (s_getf (T := TX12) (N := 70) d143_21 rfl inX12 (by decide) wd_1288)) (xT_l (s_aload_n d143_24)))))) (xT_n (xT_n (xT_n (xT_l (s_getf (T := TX12) (N := 70) d143_25 rfl inX12 (by decide) wd_1291)) (xT_n (xT_l (s_iload_n d143_28)) (xT_l (s_iast d143_29)))) (xT_n (xT_n (xT_l (s_aload_n d143_30)) (xT_l (s_getf (T := TX12) (N := 70) d143_31 rfl inX12 (by decide) wd_1289))) (xT_n (xT_l (s_aload_n d143_34)) (xT_l (s_getf (T := TX12) (N := 70) d143_35 rfl inX12 (by decide) wd_1291))))) (xT_n (xT_n (xT_n (xT_l (s_lload d143_38)) (xT_l (s_last d143_40))) (xT_n (xT_l (s_aload_n d143_41)) (xT_l (s_dup d143_42)))) (xT_n (xT_n (xT_l (s_getf (T := TX12) (N := 70) d143_43 rfl inX12 (by decide) wd_1291)) (xT_l (s_iconst d143_46 (by decide +kernel)))) (xT_n (xT_l (s_iadd d143_47)) (xT_l (s_putf (T := TX12) (N := 70) (ty := tyX12) d143_48 rfl inX12 tyX12_ok nmX12 (by decide) wd_1291 (Or.inl ⟨rfl, rfl⟩) rfl)))))))
set_option maxRecDepth 100000 in
set_option maxHeartbeats 4000000 in
theorem M_143 : xMeth PX 143 (T_143, 6, [(51, 3)]) := ⟨⟨"CapitalCaseModel", "token", "(IIIJ)V"⟩, prog_14_method_11_code, none, rfl, by decide, fun G => T_143_ok G, xrt_ok (xR_c (Or.inr (Or.inr (Or.inl ⟨rfl, d143_51, rfl⟩))) (xR_n))⟩
theorem d144_0 : decode prog_14_method_92_code 0 = .ok (.iload_n 1, 1) := by decide +kernel
theorem d144_1 : decode prog_14_method_92_code 1 = .ok (.iconst 0, 1) := by decide +kernel
theorem d144_2 : decode prog_14_method_92_code 2 = .ok (.iconst 1, 1) := by decide +kernel
theorem d144_3 : decode prog_14_method_92_code 3 = .ok (.invokestatic 324, 3) := by decide +kernel
theorem d144_6 : decode prog_14_method_92_code 6 = .ok (.ifCond .ne 5, 3) := by decide +kernel
theorem d144_9 : decode prog_14_method_92_code 9 = .ok (.iconst (-1), 1) := by decide +kernel
theorem d144_10 : decode prog_14_method_92_code 10 = .ok (.ireturn, 1) := by decide +kernel
theorem d144_11 : decode prog_14_method_92_code 11 = .ok (.aload_n 0, 1) := by decide +kernel
theorem d144_12 : decode prog_14_method_92_code 12 = .ok (.invokevirtual 411, 3) := by decide +kernel
theorem d144_15 : decode prog_14_method_92_code 15 = .ok (.aload_n 0, 1) := by decide +kernel
theorem d144_16 : decode prog_14_method_92_code 16 = .ok (.invokevirtual 436, 3) := by decide +kernel
theorem d144_19 : decode prog_14_method_92_code 19 = .ok (.istore_n 2, 1) := by decide +kernel
theorem d144_20 : decode prog_14_method_92_code 20 = .ok (.iconst 0, 1) := by decide +kernel
theorem d144_21 : decode prog_14_method_92_code 21 = .ok (.istore_n 3, 1) := by decide +kernel
theorem d144_22 : decode prog_14_method_92_code 22 = .ok (.iconst (-1), 1) := by decide +kernel
theorem d144_23 : decode prog_14_method_92_code 23 = .ok (.istore 4, 2) := by decide +kernel
theorem d144_25 : decode prog_14_method_92_code 25 = .ok (.iconst 0, 1) := by decide +kernel
theorem d144_26 : decode prog_14_method_92_code 26 = .ok (.istore 5, 2) := by decide +kernel
theorem d144_28 : decode prog_14_method_92_code 28 = .ok (.iload 5, 2) := by decide +kernel
theorem d144_30 : decode prog_14_method_92_code 30 = .ok (.iconst 1, 1) := by decide +kernel
theorem d144_31 : decode prog_14_method_92_code 31 = .ok (.aload_n 0, 1) := by decide +kernel
theorem d144_32 : decode prog_14_method_92_code 32 = .ok (.getfield 49, 3) := by decide +kernel
theorem d144_35 : decode prog_14_method_92_code 35 = .ok (.aload_n 0, 1) := by decide +kernel
theorem d144_36 : decode prog_14_method_92_code 36 = .ok (.getfield 230, 3) := by decide +kernel
theorem d144_39 : decode prog_14_method_92_code 39 = .ok (.iaload, 1) := by decide +kernel
theorem d144_40 : decode prog_14_method_92_code 40 = .ok (.ishl, 1) := by decide +kernel
theorem d144_41 : decode prog_14_method_92_code 41 = .ok (.if_icmp .ge 68, 3) := by decide +kernel
theorem d144_44 : decode prog_14_method_92_code 44 = .ok (.iload 5, 2) := by decide +kernel
theorem d144_46 : decode prog_14_method_92_code 46 = .ok (.iload_n 2, 1) := by decide +kernel
theorem d144_47 : decode prog_14_method_92_code 47 = .ok (.iconst (-1), 1) := by decide +kernel
theorem d144_48 : decode prog_14_method_92_code 48 = .ok (.ixor, 1) := by decide +kernel
theorem d144_49 : decode prog_14_method_92_code 49 = .ok (.iand, 1) := by decide +kernel
theorem d144_50 : decode prog_14_method_92_code 50 = .ok (.ifCond .eq 6, 3) := by decide +kernel
theorem d144_56 : decode prog_14_method_92_code 56 = .ok (.aload_n 0, 1) := by decide +kernel
theorem d144_57 : decode prog_14_method_92_code 57 = .ok (.iload 5, 2) := by decide +kernel
theorem d144_59 : decode prog_14_method_92_code 59 = .ok (.invokevirtual 454, 3) := by decide +kernel
theorem d144_62 : decode prog_14_method_92_code 62 = .ok (.istore 6, 2) := by decide +kernel
theorem d144_64 : decode prog_14_method_92_code 64 = .ok (.iload 6, 2) := by decide +kernel
theorem d144_66 : decode prog_14_method_92_code 66 = .ok (.ifCond .ge 6, 3) := by decide +kernel
theorem d144_72 : decode prog_14_method_92_code 72 = .ok (.aload_n 0, 1) := by decide +kernel
theorem d144_73 : decode prog_14_method_92_code 73 = .ok (.invokevirtual 451, 3) := by decide +kernel
theorem d144_76 : decode prog_14_method_92_code 76 = .ok (.iload 6, 2) := by decide +kernel
theorem d144_78 : decode prog_14_method_92_code 78 = .ok (.aload_n 0, 1) := by decide +kernel
theorem d144_79 : decode prog_14_method_92_code 79 = .ok (.getfield 442, 3) := by decide +kernel
theorem d144_82 : decode prog_14_method_92_code 82 = .ok (.iadd, 1) := by decide +kernel
theorem d144_83 : decode prog_14_method_92_code 83 = .ok (.iload 4, 2) := by decide +kernel
theorem d144_85 : decode prog_14_method_92_code 85 = .ok (.if_icmp .gt 6, 3) := by decide +kernel
theorem d144_91 : decode prog_14_method_92_code 91 = .ok (.iload 5, 2) := by decide +kernel
theorem d144_93 : decode prog_14_method_92_code 93 = .ok (.istore_n 3, 1) := by decide +kernel
theorem d144_94 : decode prog_14_method_92_code 94 = .ok (.iload 6, 2) := by decide +kernel
theorem d144_96 : decode prog_14_method_92_code 96 = .ok (.aload_n 0, 1) := by decide +kernel
theorem d144_97 : decode prog_14_method_92_code 97 = .ok (.getfield 442, 3) := by decide +kernel
theorem d144_100 : decode prog_14_method_92_code 100 = .ok (.iadd, 1) := by decide +kernel
theorem d144_101 : decode prog_14_method_92_code 101 = .ok (.istore 4, 2) := by decide +kernel
theorem d144_103 : decode prog_14_method_92_code 103 = .ok (.iinc 5 1, 3) := by decide +kernel
theorem d144_106 : decode prog_14_method_92_code 106 = .ok (.goto (-78), 3) := by decide +kernel
theorem d144_109 : decode prog_14_method_92_code 109 = .ok (.iload_n 1, 1) := by decide +kernel
theorem d144_110 : decode prog_14_method_92_code 110 = .ok (.ifCond .ne 8, 3) := by decide +kernel
theorem d144_113 : decode prog_14_method_92_code 113 = .ok (.iload 4, 2) := by decide +kernel
theorem d144_115 : decode prog_14_method_92_code 115 = .ok (.goto 4, 3) := by decide +kernel
theorem d144_118 : decode prog_14_method_92_code 118 = .ok (.iload_n 3, 1) := by decide +kernel
theorem d144_119 : decode prog_14_method_92_code 119 = .ok (.ireturn, 1) := by decide +kernel
noncomputable def T_144 : Nat → Option xF := bn 49 (bn 25 (bn 12 (bn 3 (bn 1 (bl 0 (x_iload 1 1)) (bn 2 (bl 1 (x_const 2147483648 2)) (bl 2 (x_const 2147483649 3)))) (bn 9 (bn 6 (bl 3 (x_inv 115 3 6)) (bl 6 (x_if 1 11 9))) (bn 11 (bl 9 (x_const 2147483647 10)) (bl 11 (x_aload 0 12))))) (bn 20 (bn 16 (bn 15 (bl 12 (x_invV 12 101 1 15)) (bl 15 (x_aload 0 16))) (bn 19 (bl 16 (x_invV 12 128 1 19)) (bl 19 (x_istore 2 20)))) (bn 22 (bn 21 (bl 20 (x_const 2147483648 21)) (bl 21 (x_istore 3 22))) (bn 23 (bl 22 (x_const 2147483647 23)) (bl 23 (x_istore 4 25)))))) (bn 36 (bn 30 (bn 26 (bl 25 (x_const 2147483648 26)) (bn 28 (bl 26 (x_istore 5 28)) (bl 28 (x_iload 5 30)))) (bn 32 (bn 31 (bl 30 (x_const 2147483649 31)) (bl 31 (x_aload 0 32))) (bn 35 (bl 32 (x_getf 12 24 35)) (bl 35 (x_aload 0 36))))) (bn 44 (bn 40 (bn 39 (bl 36 (x_getf 12 18 39)) (bl 39 (x_iald 40))) (bn 41 (bl 40 (x_bin (xfg (fun x y => x <<< (y &&& 31))) 41)) (bl 41 (x_icmp 3 109 44)))) (bn 47 (bn 46 (bl 44 (x_iload 5 46)) (bl 46 (x_iload 2 47))) (bn 48 (bl 47 (x_const 2147483647 48)) (bl 48 (x_bin (xfg (fun x y => x ^^^ y)) 49))))))) (bn 85 (bn 66 (bn 57 (bn 50 (bl 49 (x_bin (xfg (fun x y => x &&& y)) 50)) (bn 56 (bl 50 (x_if 0 56 53)) (bl 56 (x_aload 0 57)))) (bn 62 (bn 59 (bl 57 (x_iload 5 59)) (bl 59 (x_invV 12 108 2 62))) (bn 64 (bl 62 (x_istore 6 64)) (bl 64 (x_iload 6 66))))) (bn 78 (bn 73 (bn 72 (bl 66 (x_if 3 72 69)) (bl 72 (x_aload 0 73))) (bn 76 (bl 73 (x_invV 12 107 1 76)) (bl 76 (x_iload 6 78)))) (bn 82 (bn 79 (bl 78 (x_aload 0 79)) (bl 79 (x_getf 12 62 82))) (bn 83 (bl 82 (x_bin xfadd 83)) (bl 83 (x_iload 4 85)))))) (bn 101 (bn 94 (bn 91 (bl 85 (x_icmp 4 91 88)) (bn 93 (bl 91 (x_iload 5 93)) (bl 93 (x_istore 3 94)))) (bn 97 (bn 96 (bl 94 (x_iload 6 96)) (bl 96 (x_aload 0 97))) (bn 100 (bl 97 (x_getf 12 62 100)) (bl 100 (x_bin xfadd 101))))) (bn 110 (bn 106 (bn 103 (bl 101 (x_istore 4 103)) (bl 103 (x_iinc 5 2147483649 106))) (bn 109 (bl 106 (x_goto 28)) (bl 109 (x_iload 1 110)))) (bn 115 (bn 113 (bl 110 (x_if 1 118 113)) (bl 113 (x_iload 4 115))) (bn 118 (bl 115 (x_goto 119)) (bl 118 (x_iload 3 119)))))))
set_option maxRecDepth 100000 in
set_option maxHeartbeats 4000000 in
theorem T_144_ok (G : State → Nat → Nat → Prop) : xTree PX G prog_14_method_92_code "CapitalCaseModel" false T_144 := (xT_n (xT_n (xT_n (xT_n (xT_n (xT_l (s_iload_n d144_0)) (xT_n (xT_l (s_iconst d144_1 (by decide +kernel))) (xT_l (s_iconst d144_2 (by decide +kernel))))) (xT_n (xT_n (xT_l (s_invS d144_3 cal_115 wd_1629 wd_1630)) (xT_l (s_ifne d144_6 (by decide +kernel)))) (xT_n (xT_l (s_iconst d144_9 (by decide +kernel))) (xT_l (s_aload_n d144_11))))) (xT_n (xT_n (xT_n (xT_l (s_invV (T := TX12) d144_12 cal_101 rfl wd_1635 wd_1637 wd_73)) (xT_l (s_aload_n d144_15))) (xT_n (xT_l (s_invV (T := TX12) d144_16 cal_128 rfl wd_1798 wd_1800 wd_100)) (xT_l (s_istore_n d144_19)))) (xT_n (xT_n (xT_l (s_iconst d144_20 (by decide +kernel))) (xT_l (s_istore_n d144_21))) (xT_n (xT_l (s_iconst d144_22 (by decide +kernel))) (xT_l (s_istore d144_23)))))) (xT_n (xT_n (xT_n (xT_l (s_iconst d144_25 (by decide +kernel))) (xT_n (xT_l (s_istore d144_26)) (xT_l (s_iload d144_28)))) (xT_n (xT_n (xT_l (s_iconst d144_30 (by decide +kernel))) (xT_l (s_aload_n d144_31))) (xT_n (xT_l (s_getf (T := TX12) (N := 70) d144_32 rfl inX12 (by decide) wd_1305)) (xT_l (s_aload_n d144_35))))) (xT_n (xT_n (xT_n (xT_l (s_getf (T := TX12) (N := 70) d144_36 rfl inX12 (by decide) wd_1299)) (xT_l (s_iald d144_39))) (xT_n (xT_l (s_ishl d144_40)) (xT_l (s_icmpge d144_41 (by decide +kernel))))) (xT_n (xT_n (xT_l (s_iload d144_44)) (xT_l (s_iload_n d144_46))) (xT_n (xT_l (s_iconst d144_47 (by decide +kernel))) (xT_l (s_ixor d144_48))))))) (xT_n (xT_n (xT_n (xT_n (xT_l (s_iand d144_49)) (xT_n (xT_l (s_ifeq d144_50 (by decide +kernel))) (xT_l (s_aload_n d144_56)))) (xT_n (xT_n (xT_l (s_iload d144_57)) (xT_l (s_invV (T := TX12) d144_59 cal_108 rfl wd_1822 wd_1824 wd_103))) (xT_n (xT_l (s_istore d144_62)) (xT_l (s_iload d144_64))))) (xT_n (xT_n (xT_n (xT_l (s_ifge d144_66 (by decide +kernel))) (xT_l (s_aload_n d144_72))) (xT_n (xT_l (s_invV (T := TX12) d144_73 cal_107 rfl wd_1794 wd_1796 wd_99)) (xT_l (s_iload d144_76)))) (xT_n (xT_n (xT_l (s_aload_n d144_78)) (xT_l (s_getf (T := TX12) (N := 70) d144_79 rfl inX12 (by decide) wd_1343))) (xT_n (xT_l (s_iadd d144_82)) (xT_l (s_iload d144_83)))))) (xT_n (xT_n (xT_n (xT_l (s_icmpgt d144_85 (by decide +kernel))) (xT_n (xT_l (s_iload d144_91)) (xT_l (s_istore_n d144_93)))) (xT_n (xT_n (xT_l (s_iload d144_94)) (xT_l (s_aload_n d144_96))) (xT_n (xT_l (s_getf (T := TX12) (N := 70) d144_97 rfl inX12 (by decide) wd_1343)) (xT_l (s_iadd d144_100))))) (xT_n (xT_n (xT_n (xT_l (s_istore d144_101)) (xT_l (s_iinc d144_103 (by decide +kernel)))) (xT_n (xT_l (s_goto d144_106 (by decide +kernel))) (xT_l (s_iload_n d144_109)))) (xT_n (xT_n (xT_l (s_ifne d144_110 (by decide +kernel))) (xT_l (s_iload d144_113))) (xT_n (xT_l (s_goto d144_115 (by decide +kernel))) (xT_l (s_iload_n d144_118))))))))
set_option maxRecDepth 100000 in
set_option maxHeartbeats 4000000 in
theorem M_144 : xMeth PX 144 (T_144, 7, [(10, 1), (119, 1)]) := ⟨⟨"CapitalCaseModel", "twoDays", "(I)I"⟩, prog_14_method_92_code, (some .int), rfl, by decide, fun G => T_144_ok G, xrt_ok (xR_c (Or.inl ⟨rfl, d144_10, rfl⟩) (xR_c (Or.inl ⟨rfl, d144_119, rfl⟩) (xR_n)))⟩
theorem d145_0 : decode prog_14_method_83_code 0 = .ok (.aload_n 0, 1) := by decide +kernel
theorem d145_1 : decode prog_14_method_83_code 1 = .ok (.getfield 248, 3) := by decide +kernel
theorem d145_4 : decode prog_14_method_83_code 4 = .ok (.ifCond .ne 5, 3) := by decide +kernel
theorem d145_7 : decode prog_14_method_83_code 7 = .ok (.iconst 0, 1) := by decide +kernel
theorem d145_8 : decode prog_14_method_83_code 8 = .ok (.ireturn, 1) := by decide +kernel
noncomputable def T_145 : Nat → Option xF := bn 4 (bn 1 (bl 0 (x_aload 0 1)) (bl 1 (x_getf 12 59 4))) (bn 7 (bl 4 (x_if 1 9 7)) (bl 7 (x_const 2147483648 8)))
set_option maxRecDepth 100000 in
set_option maxHeartbeats 4000000 in
theorem T_145_ok (G : State → Nat → Nat → Prop) : xTree PX G prog_14_method_83_code "CapitalCaseModel" false T_145 := (xT_n (xT_n (xT_l (s_aload_n d145_0)) (xT_l (s_getf (T := TX12) (N := 70) d145_1 rfl inX12 (by decide) wd_1340))) (xT_n (xT_l (s_ifne d145_4 (by decide +kernel))) (xT_l (s_iconst d145_7 (by decide +kernel)))))
set_option maxRecDepth 100000 in
set_option maxHeartbeats 4000000 in
theorem M_145 : xMeth PX 145 (T_145, 2, [(8, 2)]) := ⟨⟨"CapitalCaseModel", "undo", "()Z"⟩, prog_14_method_83_code, (some .boolean), rfl, by decide, fun G => T_145_ok G, xrt_ok (xR_c (Or.inr (Or.inl ⟨rfl, d145_8, rfl⟩)) (xR_n))⟩
theorem d146_0 : decode prog_14_method_73_code 0 = .ok (.aload_n 0, 1) := by decide +kernel
theorem d146_1 : decode prog_14_method_73_code 1 = .ok (.iload_n 1, 1) := by decide +kernel
theorem d146_2 : decode prog_14_method_73_code 2 = .ok (.invokevirtual 417, 3) := by decide +kernel
theorem d146_5 : decode prog_14_method_73_code 5 = .ok (.ifCond .ne 5, 3) := by decide +kernel
theorem d146_8 : decode prog_14_method_73_code 8 = .ok (.iconst (-1), 1) := by decide +kernel
theorem d146_9 : decode prog_14_method_73_code 9 = .ok (.ireturn, 1) := by decide +kernel
noncomputable def T_146 : Nat → Option xF := bn 2 (bn 1 (bl 0 (x_aload 0 1)) (bl 1 (x_iload 1 2))) (bn 5 (bl 2 (x_invV 12 120 2 5)) (bn 8 (bl 5 (x_if 1 10 8)) (bl 8 (x_const 2147483647 9))))
set_option maxRecDepth 100000 in
set_option maxHeartbeats 4000000 in
theorem T_146_ok (G : State → Nat → Nat → Prop) : xTree PX G prog_14_method_73_code "CapitalCaseModel" false T_146 := (xT_n (xT_n (xT_l (s_aload_n d146_0)) (xT_l (s_iload_n d146_1))) (xT_n (xT_l (s_invV (T := TX12) d146_2 cal_120 rfl wd_1678 wd_1680 wd_82)) (xT_n (xT_l (s_ifne d146_5 (by decide +kernel))) (xT_l (s_iconst d146_8 (by decide +kernel))))))
set_option maxRecDepth 100000 in
set_option maxHeartbeats 4000000 in
theorem M_146 : xMeth PX 146 (T_146, 3, [(9, 1)]) := ⟨⟨"CapitalCaseModel", "verse", "(II)I"⟩, prog_14_method_73_code, (some .int), rfl, by decide, fun G => T_146_ok G, xrt_ok (xR_c (Or.inl ⟨rfl, d146_9, rfl⟩) (xR_n))⟩
theorem d147_0 : decode prog_14_method_114_code 0 = .ok (.iconst 0, 1) := by decide +kernel
theorem d147_1 : decode prog_14_method_114_code 1 = .ok (.istore_n 3, 1) := by decide +kernel
theorem d147_2 : decode prog_14_method_114_code 2 = .ok (.iconst 0, 1) := by decide +kernel
theorem d147_3 : decode prog_14_method_114_code 3 = .ok (.istore 4, 2) := by decide +kernel
theorem d147_5 : decode prog_14_method_114_code 5 = .ok (.iload 4, 2) := by decide +kernel
theorem d147_7 : decode prog_14_method_114_code 7 = .ok (.aload_n 0, 1) := by decide +kernel
theorem d147_8 : decode prog_14_method_114_code 8 = .ok (.getfield 49, 3) := by decide +kernel
theorem d147_11 : decode prog_14_method_114_code 11 = .ok (.aload_n 0, 1) := by decide +kernel
theorem d147_12 : decode prog_14_method_114_code 12 = .ok (.getfield 230, 3) := by decide +kernel
theorem d147_15 : decode prog_14_method_114_code 15 = .ok (.iaload, 1) := by decide +kernel
theorem d147_16 : decode prog_14_method_114_code 16 = .ok (.if_icmp .ge 35, 3) := by decide +kernel
theorem d147_51 : decode prog_14_method_114_code 51 = .ok (.iload_n 3, 1) := by decide +kernel
theorem d147_52 : decode prog_14_method_114_code 52 = .ok (.ireturn, 1) := by decide +kernel
noncomputable def T_147 : Nat → Option xF := bn 8 (bn 3 (bn 1 (bl 0 (x_const 2147483648 1)) (bn 2 (bl 1 (x_istore 3 2)) (bl 2 (x_const 2147483648 3)))) (bn 5 (bl 3 (x_istore 4 5)) (bn 7 (bl 5 (x_iload 4 7)) (bl 7 (x_aload 0 8))))) (bn 15 (bn 11 (bl 8 (x_getf 12 24 11)) (bn 12 (bl 11 (x_aload 0 12)) (bl 12 (x_getf 12 18 15)))) (bn 16 (bl 15 (x_iald 16)) (bn 51 (bl 16 (x_icmp 3 51 19)) (bl 51 (x_iload 3 52)))))
set_option maxRecDepth 100000 in
set_option maxHeartbeats 4000000 in
theorem T_147_ok (G : State → Nat → Nat → Prop) : xTree PX G prog_14_method_114_code "CapitalCaseModel" false T_147 := (xT_n (xT_n (xT_n (xT_l (s_iconst d147_0 (by decide +kernel))) (xT_n (xT_l (s_istore_n d147_1)) (xT_l (s_iconst d147_2 (by decide +kernel))))) (xT_n (xT_l (s_istore d147_3)) (xT_n (xT_l (s_iload d147_5)) (xT_l (s_aload_n d147_7))))) (xT_n (xT_n (xT_l (s_getf (T := TX12) (N := 70) d147_8 rfl inX12 (by decide) wd_1305)) (xT_n (xT_l (s_aload_n d147_11)) (xT_l (s_getf (T := TX12) (N := 70) d147_12 rfl inX12 (by decide) wd_1299)))) (xT_n (xT_l (s_iald d147_15)) (xT_n (xT_l (s_icmpge d147_16 (by decide +kernel))) (xT_l (s_iload_n d147_51))))))
set_option maxRecDepth 100000 in
set_option maxHeartbeats 4000000 in
theorem M_147 : xMeth PX 147 (T_147, 5, [(52, 1)]) := ⟨⟨"CapitalCaseModel", "versesSo", "(II)I"⟩, prog_14_method_114_code, (some .int), rfl, by decide, fun G => T_147_ok G, xrt_ok (xR_c (Or.inl ⟨rfl, d147_52, rfl⟩) (xR_n))⟩
theorem d148_0 : decode prog_14_method_74_code 0 = .ok (.aload_n 0, 1) := by decide +kernel
theorem d148_1 : decode prog_14_method_74_code 1 = .ok (.iload_n 1, 1) := by decide +kernel
theorem d148_2 : decode prog_14_method_74_code 2 = .ok (.invokevirtual 417, 3) := by decide +kernel
theorem d148_5 : decode prog_14_method_74_code 5 = .ok (.ifCond .eq 49, 3) := by decide +kernel
theorem d148_54 : decode prog_14_method_74_code 54 = .ok (.iconst (-1), 1) := by decide +kernel
theorem d148_55 : decode prog_14_method_74_code 55 = .ok (.ireturn, 1) := by decide +kernel
noncomputable def T_148 : Nat → Option xF := bn 2 (bn 1 (bl 0 (x_aload 0 1)) (bl 1 (x_iload 1 2))) (bn 5 (bl 2 (x_invV 12 120 2 5)) (bn 54 (bl 5 (x_if 0 54 8)) (bl 54 (x_const 2147483647 55))))
set_option maxRecDepth 100000 in
set_option maxHeartbeats 4000000 in
theorem T_148_ok (G : State → Nat → Nat → Prop) : xTree PX G prog_14_method_74_code "CapitalCaseModel" false T_148 := (xT_n (xT_n (xT_l (s_aload_n d148_0)) (xT_l (s_iload_n d148_1))) (xT_n (xT_l (s_invV (T := TX12) d148_2 cal_120 rfl wd_1678 wd_1680 wd_82)) (xT_n (xT_l (s_ifeq d148_5 (by decide +kernel))) (xT_l (s_iconst d148_54 (by decide +kernel))))))
set_option maxRecDepth 100000 in
set_option maxHeartbeats 4000000 in
theorem M_148 : xMeth PX 148 (T_148, 3, [(55, 1)]) := ⟨⟨"CapitalCaseModel", "wants", "(II)I"⟩, prog_14_method_74_code, (some .int), rfl, by decide, fun G => T_148_ok G, xrt_ok (xR_c (Or.inl ⟨rfl, d148_55, rfl⟩) (xR_n))⟩
theorem d149_0 : decode prog_14_method_109_code 0 = .ok (.iload_n 1, 1) := by decide +kernel
theorem d149_1 : decode prog_14_method_109_code 1 = .ok (.iconst 0, 1) := by decide +kernel
theorem d149_2 : decode prog_14_method_109_code 2 = .ok (.aload_n 0, 1) := by decide +kernel
theorem d149_3 : decode prog_14_method_109_code 3 = .ok (.getfield 251, 3) := by decide +kernel
theorem d149_6 : decode prog_14_method_109_code 6 = .ok (.invokestatic 324, 3) := by decide +kernel
theorem d149_9 : decode prog_14_method_109_code 9 = .ok (.ifCond .eq 12, 3) := by decide +kernel
theorem d149_12 : decode prog_14_method_109_code 12 = .ok (.iload_n 2, 1) := by decide +kernel
theorem d149_13 : decode prog_14_method_109_code 13 = .ok (.iconst 0, 1) := by decide +kernel
theorem d149_14 : decode prog_14_method_109_code 14 = .ok (.iconst 1, 1) := by decide +kernel
theorem d149_15 : decode prog_14_method_109_code 15 = .ok (.invokestatic 324, 3) := by decide +kernel
theorem d149_18 : decode prog_14_method_109_code 18 = .ok (.ifCond .ne 5, 3) := by decide +kernel
theorem d149_21 : decode prog_14_method_109_code 21 = .ok (.iconst (-1), 1) := by decide +kernel
theorem d149_22 : decode prog_14_method_109_code 22 = .ok (.ireturn, 1) := by decide +kernel
theorem d149_23 : decode prog_14_method_109_code 23 = .ok (.aload_n 0, 1) := by decide +kernel
theorem d149_24 : decode prog_14_method_109_code 24 = .ok (.iload_n 1, 1) := by decide +kernel
theorem d149_25 : decode prog_14_method_109_code 25 = .ok (.invokevirtual 467, 3) := by decide +kernel
theorem d149_28 : decode prog_14_method_109_code 28 = .ok (.istore_n 3, 1) := by decide +kernel
theorem d149_29 : decode prog_14_method_109_code 29 = .ok (.iload_n 2, 1) := by decide +kernel
theorem d149_30 : decode prog_14_method_109_code 30 = .ok (.ifCond .ne 10, 3) := by decide +kernel
theorem d149_33 : decode prog_14_method_109_code 33 = .ok (.iload_n 3, 1) := by decide +kernel
theorem d149_34 : decode prog_14_method_109_code 34 = .ok (.invokestatic 470, 3) := by decide +kernel
theorem d149_37 : decode prog_14_method_109_code 37 = .ok (.goto 4, 3) := by decide +kernel
theorem d149_40 : decode prog_14_method_109_code 40 = .ok (.iload_n 3, 1) := by decide +kernel
theorem d149_41 : decode prog_14_method_109_code 41 = .ok (.ireturn, 1) := by decide +kernel
noncomputable def T_149 : Nat → Option xF := bn 21 (bn 9 (bn 2 (bn 1 (bl 0 (x_iload 1 1)) (bl 1 (x_const 2147483648 2))) (bn 3 (bl 2 (x_aload 0 3)) (bn 6 (bl 3 (x_getf 12 64 6)) (bl 6 (x_inv 115 3 9))))) (bn 14 (bn 12 (bl 9 (x_if 0 21 12)) (bn 13 (bl 12 (x_iload 2 13)) (bl 13 (x_const 2147483648 14)))) (bn 15 (bl 14 (x_const 2147483649 15)) (bn 18 (bl 15 (x_inv 115 3 18)) (bl 18 (x_if 1 23 21)))))) (bn 29 (bn 24 (bn 23 (bl 21 (x_const 2147483647 22)) (bl 23 (x_aload 0 24))) (bn 25 (bl 24 (x_iload 1 25)) (bn 28 (bl 25 (x_invV 12 150 2 28)) (bl 28 (x_istore 3 29))))) (bn 34 (bn 30 (bl 29 (x_iload 2 30)) (bn 33 (bl 30 (x_if 1 40 33)) (bl 33 (x_iload 3 34)))) (bn 37 (bl 34 (x_inv 97 1 37)) (bn 40 (bl 37 (x_goto 41)) (bl 40 (x_iload 3 41))))))
set_option maxRecDepth 100000 in
set_option maxHeartbeats 4000000 in
theorem T_149_ok (G : State → Nat → Nat → Prop) : xTree PX G prog_14_method_109_code "CapitalCaseModel" false T_149 := (xT_n (xT_n (xT_n (xT_n (xT_l (s_iload_n d149_0)) (xT_l (s_iconst d149_1 (by decide +kernel)))) (xT_n (xT_l (s_aload_n d149_2)) (xT_n (xT_l (s_getf (T := TX12) (N := 70) d149_3 rfl inX12 (by decide) wd_1345)) (xT_l (s_invS d149_6 cal_115 wd_1629 wd_1630))))) (xT_n (xT_n (xT_l (s_ifeq d149_9 (by decide +kernel))) (xT_n (xT_l (s_iload_n d149_12)) (xT_l (s_iconst d149_13 (by decide +kernel))))) (xT_n (xT_l (s_iconst d149_14 (by decide +kernel))) (xT_n (xT_l (s_invS d149_15 cal_115 wd_1629 wd_1630)) (xT_l (s_ifne d149_18 (by decide +kernel))))))) (xT_n (xT_n (xT_n (xT_l (s_iconst d149_21 (by decide +kernel))) (xT_l (s_aload_n d149_23))) (xT_n (xT_l (s_iload_n d149_24)) (xT_n (xT_l (s_invV (T := TX12) d149_25 cal_150 rfl wd_1886 wd_1888 wd_107)) (xT_l (s_istore_n d149_28))))) (xT_n (xT_n (xT_l (s_iload_n d149_29)) (xT_n (xT_l (s_ifne d149_30 (by decide +kernel))) (xT_l (s_iload_n d149_33)))) (xT_n (xT_l (s_invS d149_34 cal_97 wd_1890 wd_1891)) (xT_n (xT_l (s_goto d149_37 (by decide +kernel))) (xT_l (s_iload_n d149_40)))))))
set_option maxRecDepth 100000 in
set_option maxHeartbeats 4000000 in
theorem M_149 : xMeth PX 149 (T_149, 4, [(22, 1), (41, 1)]) := ⟨⟨"CapitalCaseModel", "whose", "(II)I"⟩, prog_14_method_109_code, (some .int), rfl, by decide, fun G => T_149_ok G, xrt_ok (xR_c (Or.inl ⟨rfl, d149_22, rfl⟩) (xR_c (Or.inl ⟨rfl, d149_41, rfl⟩) (xR_n)))⟩
theorem d150_0 : decode prog_14_method_108_code 0 = .ok (.iconst 0, 1) := by decide +kernel
theorem d150_1 : decode prog_14_method_108_code 1 = .ok (.istore_n 2, 1) := by decide +kernel
theorem d150_2 : decode prog_14_method_108_code 2 = .ok (.iconst 0, 1) := by decide +kernel
theorem d150_3 : decode prog_14_method_108_code 3 = .ok (.istore_n 3, 1) := by decide +kernel
theorem d150_4 : decode prog_14_method_108_code 4 = .ok (.iload_n 3, 1) := by decide +kernel
theorem d150_5 : decode prog_14_method_108_code 5 = .ok (.aload_n 0, 1) := by decide +kernel
theorem d150_6 : decode prog_14_method_108_code 6 = .ok (.getfield 43, 3) := by decide +kernel
theorem d150_9 : decode prog_14_method_108_code 9 = .ok (.aload_n 0, 1) := by decide +kernel
theorem d150_10 : decode prog_14_method_108_code 10 = .ok (.getfield 230, 3) := by decide +kernel
theorem d150_13 : decode prog_14_method_108_code 13 = .ok (.iaload, 1) := by decide +kernel
theorem d150_14 : decode prog_14_method_108_code 14 = .ok (.if_icmp .ge 86, 3) := by decide +kernel
theorem d150_100 : decode prog_14_method_108_code 100 = .ok (.iload_n 2, 1) := by decide +kernel
theorem d150_101 : decode prog_14_method_108_code 101 = .ok (.ireturn, 1) := by decide +kernel
noncomputable def T_150 : Nat → Option xF := bn 6 (bn 3 (bn 1 (bl 0 (x_const 2147483648 1)) (bn 2 (bl 1 (x_istore 2 2)) (bl 2 (x_const 2147483648 3)))) (bn 4 (bl 3 (x_istore 3 4)) (bn 5 (bl 4 (x_iload 3 5)) (bl 5 (x_aload 0 6))))) (bn 13 (bn 9 (bl 6 (x_getf 12 22 9)) (bn 10 (bl 9 (x_aload 0 10)) (bl 10 (x_getf 12 18 13)))) (bn 14 (bl 13 (x_iald 14)) (bn 100 (bl 14 (x_icmp 3 100 17)) (bl 100 (x_iload 2 101)))))
set_option maxRecDepth 100000 in
set_option maxHeartbeats 4000000 in
theorem T_150_ok (G : State → Nat → Nat → Prop) : xTree PX G prog_14_method_108_code "CapitalCaseModel" false T_150 := (xT_n (xT_n (xT_n (xT_l (s_iconst d150_0 (by decide +kernel))) (xT_n (xT_l (s_istore_n d150_1)) (xT_l (s_iconst d150_2 (by decide +kernel))))) (xT_n (xT_l (s_istore_n d150_3)) (xT_n (xT_l (s_iload_n d150_4)) (xT_l (s_aload_n d150_5))))) (xT_n (xT_n (xT_l (s_getf (T := TX12) (N := 70) d150_6 rfl inX12 (by decide) wd_1303)) (xT_n (xT_l (s_aload_n d150_9)) (xT_l (s_getf (T := TX12) (N := 70) d150_10 rfl inX12 (by decide) wd_1299)))) (xT_n (xT_l (s_iald d150_13)) (xT_n (xT_l (s_icmpge d150_14 (by decide +kernel))) (xT_l (s_iload_n d150_100))))))
set_option maxRecDepth 100000 in
set_option maxHeartbeats 4000000 in
theorem M_150 : xMeth PX 150 (T_150, 6, [(101, 1)]) := ⟨⟨"CapitalCaseModel", "whoseBits", "(I)I"⟩, prog_14_method_108_code, (some .int), rfl, by decide, fun G => T_150_ok G, xrt_ok (xR_c (Or.inl ⟨rfl, d150_101, rfl⟩) (xR_n))⟩
theorem d151_0 : decode prog_14_method_10_code 0 = .ok (.lconst 0, 1) := by decide +kernel
theorem d151_1 : decode prog_14_method_10_code 1 = .ok (.iload_n 0, 1) := by decide +kernel
theorem d151_2 : decode prog_14_method_10_code 2 = .ok (.invokestatic 174, 3) := by decide +kernel
theorem d151_5 : decode prog_14_method_10_code 5 = .ok (.iload_n 1, 1) := by decide +kernel
theorem d151_6 : decode prog_14_method_10_code 6 = .ok (.invokestatic 174, 3) := by decide +kernel
theorem d151_9 : decode prog_14_method_10_code 9 = .ok (.iload_n 2, 1) := by decide +kernel
theorem d151_10 : decode prog_14_method_10_code 10 = .ok (.invokestatic 174, 3) := by decide +kernel
theorem d151_13 : decode prog_14_method_10_code 13 = .ok (.iload_n 3, 1) := by decide +kernel
theorem d151_14 : decode prog_14_method_10_code 14 = .ok (.invokestatic 174, 3) := by decide +kernel
theorem d151_17 : decode prog_14_method_10_code 17 = .ok (.iload 4, 2) := by decide +kernel
theorem d151_19 : decode prog_14_method_10_code 19 = .ok (.invokestatic 174, 3) := by decide +kernel
theorem d151_22 : decode prog_14_method_10_code 22 = .ok (.iload 5, 2) := by decide +kernel
theorem d151_24 : decode prog_14_method_10_code 24 = .ok (.invokestatic 174, 3) := by decide +kernel
theorem d151_27 : decode prog_14_method_10_code 27 = .ok (.iload 6, 2) := by decide +kernel
theorem d151_29 : decode prog_14_method_10_code 29 = .ok (.invokestatic 174, 3) := by decide +kernel
theorem d151_32 : decode prog_14_method_10_code 32 = .ok (.lreturn, 1) := by decide +kernel
noncomputable def T_151 : Nat → Option xF := bn 13 (bn 5 (bn 1 (bl 0 (x_lconst 1)) (bn 2 (bl 1 (x_iload 0 2)) (bl 2 (x_inv 89 2 5)))) (bn 9 (bn 6 (bl 5 (x_iload 1 6)) (bl 6 (x_inv 89 2 9))) (bn 10 (bl 9 (x_iload 2 10)) (bl 10 (x_inv 89 2 13))))) (bn 22 (bn 17 (bn 14 (bl 13 (x_iload 3 14)) (bl 14 (x_inv 89 2 17))) (bn 19 (bl 17 (x_iload 4 19)) (bl 19 (x_inv 89 2 22)))) (bn 27 (bn 24 (bl 22 (x_iload 5 24)) (bl 24 (x_inv 89 2 27))) (bn 29 (bl 27 (x_iload 6 29)) (bl 29 (x_inv 89 2 32)))))
set_option maxRecDepth 100000 in
set_option maxHeartbeats 4000000 in
theorem T_151_ok (G : State → Nat → Nat → Prop) : xTree PX G prog_14_method_10_code "CapitalCaseModel" false T_151 := (xT_n (xT_n (xT_n (xT_l (s_lconst d151_0)) (xT_n (xT_l (s_iload_n d151_1)) (xT_l (s_invS d151_2 cal_89 wd_1270 wd_1271)))) (xT_n (xT_n (xT_l (s_iload_n d151_5)) (xT_l (s_invS d151_6 cal_89 wd_1270 wd_1271))) (xT_n (xT_l (s_iload_n d151_9)) (xT_l (s_invS d151_10 cal_89 wd_1270 wd_1271))))) (xT_n (xT_n (xT_n (xT_l (s_iload_n d151_13)) (xT_l (s_invS d151_14 cal_89 wd_1270 wd_1271))) (xT_n (xT_l (s_iload d151_17)) (xT_l (s_invS d151_19 cal_89 wd_1270 wd_1271)))) (xT_n (xT_n (xT_l (s_iload d151_22)) (xT_l (s_invS d151_24 cal_89 wd_1270 wd_1271))) (xT_n (xT_l (s_iload d151_27)) (xT_l (s_invS d151_29 cal_89 wd_1270 wd_1271))))))
set_option maxRecDepth 100000 in
set_option maxHeartbeats 4000000 in
theorem M_151 : xMeth PX 151 (T_151, 7, [(32, 4)]) := ⟨⟨"CapitalCaseModel", "word", "(IIIIIII)J"⟩, prog_14_method_10_code, (some .long), rfl, by decide, fun G => T_151_ok G, xrt_ok (xR_c (Or.inr (Or.inr (Or.inr ⟨rfl, d151_32, rfl⟩))) (xR_n))⟩
theorem d152_0 : decode prog_14_method_102_code 0 = .ok (.aload_n 0, 1) := by decide +kernel
theorem d152_1 : decode prog_14_method_102_code 1 = .ok (.iload_n 1, 1) := by decide +kernel
theorem d152_2 : decode prog_14_method_102_code 2 = .ok (.invokevirtual 405, 3) := by decide +kernel
theorem d152_5 : decode prog_14_method_102_code 5 = .ok (.ifCond .eq 10, 3) := by decide +kernel
theorem d152_15 : decode prog_14_method_102_code 15 = .ok (.iconst (-1), 1) := by decide +kernel
theorem d152_16 : decode prog_14_method_102_code 16 = .ok (.ireturn, 1) := by decide +kernel
noncomputable def T_152 : Nat → Option xF := bn 2 (bn 1 (bl 0 (x_aload 0 1)) (bl 1 (x_iload 1 2))) (bn 5 (bl 2 (x_invV 12 117 2 5)) (bn 15 (bl 5 (x_if 0 15 8)) (bl 15 (x_const 2147483647 16))))
set_option maxRecDepth 100000 in
set_option maxHeartbeats 4000000 in
theorem T_152_ok (G : State → Nat → Nat → Prop) : xTree PX G prog_14_method_102_code "CapitalCaseModel" false T_152 := (xT_n (xT_n (xT_l (s_aload_n d152_0)) (xT_l (s_iload_n d152_1))) (xT_n (xT_l (s_invV (T := TX12) d152_2 cal_117 rfl wd_1625 wd_1627 wd_72)) (xT_n (xT_l (s_ifeq d152_5 (by decide +kernel))) (xT_l (s_iconst d152_15 (by decide +kernel))))))
set_option maxRecDepth 100000 in
set_option maxHeartbeats 4000000 in
theorem M_152 : xMeth PX 152 (T_152, 4, [(16, 1)]) := ⟨⟨"CapitalCaseModel", "wornOut", "(II)I"⟩, prog_14_method_102_code, (some .int), rfl, by decide, fun G => T_152_ok G, xrt_ok (xR_c (Or.inl ⟨rfl, d152_16, rfl⟩) (xR_n))⟩
theorem d153_0 : decode prog_14_method_89_code 0 = .ok (.aload_n 0, 1) := by decide +kernel
theorem d153_1 : decode prog_14_method_89_code 1 = .ok (.iload_n 1, 1) := by decide +kernel
theorem d153_2 : decode prog_14_method_89_code 2 = .ok (.invokevirtual 405, 3) := by decide +kernel
theorem d153_5 : decode prog_14_method_89_code 5 = .ok (.ifCond .eq 10, 3) := by decide +kernel
theorem d153_15 : decode prog_14_method_89_code 15 = .ok (.iconst (-1), 1) := by decide +kernel
theorem d153_16 : decode prog_14_method_89_code 16 = .ok (.ireturn, 1) := by decide +kernel
noncomputable def T_153 : Nat → Option xF := bn 2 (bn 1 (bl 0 (x_aload 0 1)) (bl 1 (x_iload 1 2))) (bn 5 (bl 2 (x_invV 12 117 2 5)) (bn 15 (bl 5 (x_if 0 15 8)) (bl 15 (x_const 2147483647 16))))
set_option maxRecDepth 100000 in
set_option maxHeartbeats 4000000 in
theorem T_153_ok (G : State → Nat → Nat → Prop) : xTree PX G prog_14_method_89_code "CapitalCaseModel" false T_153 := (xT_n (xT_n (xT_l (s_aload_n d153_0)) (xT_l (s_iload_n d153_1))) (xT_n (xT_l (s_invV (T := TX12) d153_2 cal_117 rfl wd_1625 wd_1627 wd_72)) (xT_n (xT_l (s_ifeq d153_5 (by decide +kernel))) (xT_l (s_iconst d153_15 (by decide +kernel))))))
set_option maxRecDepth 100000 in
set_option maxHeartbeats 4000000 in
theorem M_153 : xMeth PX 153 (T_153, 4, [(16, 1)]) := ⟨⟨"CapitalCaseModel", "worth", "(II)I"⟩, prog_14_method_89_code, (some .int), rfl, by decide, fun G => T_153_ok G, xrt_ok (xR_c (Or.inl ⟨rfl, d153_16, rfl⟩) (xR_n))⟩
theorem d154_0 : decode prog_14_method_105_code 0 = .ok (.aload_n 0, 1) := by decide +kernel
theorem d154_1 : decode prog_14_method_105_code 1 = .ok (.iload_n 1, 1) := by decide +kernel
theorem d154_2 : decode prog_14_method_105_code 2 = .ok (.invokevirtual 405, 3) := by decide +kernel
theorem d154_5 : decode prog_14_method_105_code 5 = .ok (.ifCond .eq 28, 3) := by decide +kernel
theorem d154_33 : decode prog_14_method_105_code 33 = .ok (.iconst (-1), 1) := by decide +kernel
theorem d154_34 : decode prog_14_method_105_code 34 = .ok (.ireturn, 1) := by decide +kernel
noncomputable def T_154 : Nat → Option xF := bn 2 (bn 1 (bl 0 (x_aload 0 1)) (bl 1 (x_iload 1 2))) (bn 5 (bl 2 (x_invV 12 117 2 5)) (bn 33 (bl 5 (x_if 0 33 8)) (bl 33 (x_const 2147483647 34))))
set_option maxRecDepth 100000 in
set_option maxHeartbeats 4000000 in
theorem T_154_ok (G : State → Nat → Nat → Prop) : xTree PX G prog_14_method_105_code "CapitalCaseModel" false T_154 := (xT_n (xT_n (xT_l (s_aload_n d154_0)) (xT_l (s_iload_n d154_1))) (xT_n (xT_l (s_invV (T := TX12) d154_2 cal_117 rfl wd_1625 wd_1627 wd_72)) (xT_n (xT_l (s_ifeq d154_5 (by decide +kernel))) (xT_l (s_iconst d154_33 (by decide +kernel))))))
set_option maxRecDepth 100000 in
set_option maxHeartbeats 4000000 in
theorem M_154 : xMeth PX 154 (T_154, 7, [(34, 1)]) := ⟨⟨"CapitalCaseModel", "year", "(IIII)I"⟩, prog_14_method_105_code, (some .int), rfl, by decide, fun G => T_154_ok G, xrt_ok (xR_c (Or.inl ⟨rfl, d154_34, rfl⟩) (xR_n))⟩
theorem d155_0 : decode prog_16_method_49_code 0 = .ok (.iload_n 0, 1) := by decide +kernel
theorem d155_1 : decode prog_16_method_49_code 1 = .ok (.iload_n 0, 1) := by decide +kernel
theorem d155_2 : decode prog_16_method_49_code 2 = .ok (.iconst 1, 1) := by decide +kernel
theorem d155_3 : decode prog_16_method_49_code 3 = .ok (.iushr, 1) := by decide +kernel
theorem d155_4 : decode prog_16_method_49_code 4 = .ok (.ldc_w 265, 3) := by decide +kernel
theorem d155_7 : decode prog_16_method_49_code 7 = .ok (.iand, 1) := by decide +kernel
theorem d155_8 : decode prog_16_method_49_code 8 = .ok (.isub, 1) := by decide +kernel
theorem d155_9 : decode prog_16_method_49_code 9 = .ok (.istore_n 0, 1) := by decide +kernel
theorem d155_10 : decode prog_16_method_49_code 10 = .ok (.iload_n 0, 1) := by decide +kernel
theorem d155_11 : decode prog_16_method_49_code 11 = .ok (.ldc_w 266, 3) := by decide +kernel
theorem d155_14 : decode prog_16_method_49_code 14 = .ok (.iand, 1) := by decide +kernel
theorem d155_15 : decode prog_16_method_49_code 15 = .ok (.iload_n 0, 1) := by decide +kernel
theorem d155_16 : decode prog_16_method_49_code 16 = .ok (.iconst 2, 1) := by decide +kernel
theorem d155_17 : decode prog_16_method_49_code 17 = .ok (.iushr, 1) := by decide +kernel
theorem d155_18 : decode prog_16_method_49_code 18 = .ok (.ldc_w 266, 3) := by decide +kernel
theorem d155_21 : decode prog_16_method_49_code 21 = .ok (.iand, 1) := by decide +kernel
theorem d155_22 : decode prog_16_method_49_code 22 = .ok (.iadd, 1) := by decide +kernel
theorem d155_23 : decode prog_16_method_49_code 23 = .ok (.istore_n 0, 1) := by decide +kernel
theorem d155_24 : decode prog_16_method_49_code 24 = .ok (.iload_n 0, 1) := by decide +kernel
theorem d155_25 : decode prog_16_method_49_code 25 = .ok (.iload_n 0, 1) := by decide +kernel
theorem d155_26 : decode prog_16_method_49_code 26 = .ok (.iconst 4, 1) := by decide +kernel
theorem d155_27 : decode prog_16_method_49_code 27 = .ok (.iushr, 1) := by decide +kernel
theorem d155_28 : decode prog_16_method_49_code 28 = .ok (.iadd, 1) := by decide +kernel
theorem d155_29 : decode prog_16_method_49_code 29 = .ok (.ldc_w 267, 3) := by decide +kernel
theorem d155_32 : decode prog_16_method_49_code 32 = .ok (.iand, 1) := by decide +kernel
theorem d155_33 : decode prog_16_method_49_code 33 = .ok (.istore_n 0, 1) := by decide +kernel
theorem d155_34 : decode prog_16_method_49_code 34 = .ok (.iload_n 0, 1) := by decide +kernel
theorem d155_35 : decode prog_16_method_49_code 35 = .ok (.iload_n 0, 1) := by decide +kernel
theorem d155_36 : decode prog_16_method_49_code 36 = .ok (.bipush 8, 2) := by decide +kernel
theorem d155_38 : decode prog_16_method_49_code 38 = .ok (.iushr, 1) := by decide +kernel
theorem d155_39 : decode prog_16_method_49_code 39 = .ok (.iadd, 1) := by decide +kernel
theorem d155_40 : decode prog_16_method_49_code 40 = .ok (.istore_n 0, 1) := by decide +kernel
theorem d155_41 : decode prog_16_method_49_code 41 = .ok (.iload_n 0, 1) := by decide +kernel
theorem d155_42 : decode prog_16_method_49_code 42 = .ok (.iload_n 0, 1) := by decide +kernel
theorem d155_43 : decode prog_16_method_49_code 43 = .ok (.bipush 16, 2) := by decide +kernel
theorem d155_45 : decode prog_16_method_49_code 45 = .ok (.iushr, 1) := by decide +kernel
theorem d155_46 : decode prog_16_method_49_code 46 = .ok (.iadd, 1) := by decide +kernel
theorem d155_47 : decode prog_16_method_49_code 47 = .ok (.istore_n 0, 1) := by decide +kernel
theorem d155_48 : decode prog_16_method_49_code 48 = .ok (.iload_n 0, 1) := by decide +kernel
theorem d155_49 : decode prog_16_method_49_code 49 = .ok (.bipush 63, 2) := by decide +kernel
theorem d155_51 : decode prog_16_method_49_code 51 = .ok (.iand, 1) := by decide +kernel
theorem d155_52 : decode prog_16_method_49_code 52 = .ok (.ireturn, 1) := by decide +kernel
noncomputable def T_155 : Nat → Option xF := bn 26 (bn 14 (bn 7 (bn 2 (bn 1 (bl 0 (x_iload 0 1)) (bl 1 (x_iload 0 2))) (bn 3 (bl 2 (x_const 2147483649 3)) (bn 4 (bl 3 (x_bin (xfg (fun x y => (x.toUInt32 >>> (y.toUInt32 &&& Int32.toUInt32 31)).toInt32)) 4)) (bl 4 (x_const 3579139413 7))))) (bn 9 (bn 8 (bl 7 (x_bin (xfg (fun x y => x &&& y)) 8)) (bl 8 (x_bin xfsub 9))) (bn 10 (bl 9 (x_istore 0 10)) (bn 11 (bl 10 (x_iload 0 11)) (bl 11 (x_const 3006477107 14)))))) (bn 21 (bn 16 (bn 15 (bl 14 (x_bin (xfg (fun x y => x &&& y)) 15)) (bl 15 (x_iload 0 16))) (bn 17 (bl 16 (x_const 2147483650 17)) (bn 18 (bl 17 (x_bin (xfg (fun x y => (x.toUInt32 >>> (y.toUInt32 &&& Int32.toUInt32 31)).toInt32)) 18)) (bl 18 (x_const 3006477107 21))))) (bn 23 (bn 22 (bl 21 (x_bin (xfg (fun x y => x &&& y)) 22)) (bl 22 (x_bin xfadd 23))) (bn 24 (bl 23 (x_istore 0 24)) (bn 25 (bl 24 (x_iload 0 25)) (bl 25 (x_iload 0 26))))))) (bn 39 (bn 33 (bn 28 (bn 27 (bl 26 (x_const 2147483652 27)) (bl 27 (x_bin (xfg (fun x y => (x.toUInt32 >>> (y.toUInt32 &&& Int32.toUInt32 31)).toInt32)) 28))) (bn 29 (bl 28 (x_bin xfadd 29)) (bn 32 (bl 29 (x_const 2400128783 32)) (bl 32 (x_bin (xfg (fun x y => x &&& y)) 33))))) (bn 35 (bn 34 (bl 33 (x_istore 0 34)) (bl 34 (x_iload 0 35))) (bn 36 (bl 35 (x_iload 0 36)) (bn 38 (bl 36 (x_const 2147483656 38)) (bl 38 (x_bin (xfg (fun x y => (x.toUInt32 >>> (y.toUInt32 &&& Int32.toUInt32 31)).toInt32)) 39)))))) (bn 45 (bn 41 (bn 40 (bl 39 (x_bin xfadd 40)) (bl 40 (x_istore 0 41))) (bn 42 (bl 41 (x_iload 0 42)) (bn 43 (bl 42 (x_iload 0 43)) (bl 43 (x_const 2147483664 45))))) (bn 48 (bn 46 (bl 45 (x_bin (xfg (fun x y => (x.toUInt32 >>> (y.toUInt32 &&& Int32.toUInt32 31)).toInt32)) 46)) (bn 47 (bl 46 (x_bin xfadd 47)) (bl 47 (x_istore 0 48)))) (bn 49 (bl 48 (x_iload 0 49)) (bn 51 (bl 49 (x_const 2147483711 51)) (bl 51 (x_bin (xfg (fun x y => x &&& y)) 52)))))))
set_option maxRecDepth 100000 in
set_option maxHeartbeats 4000000 in
theorem T_155_ok (G : State → Nat → Nat → Prop) : xTree PX G prog_16_method_49_code "java/lang/Integer" false T_155 := (xT_n (xT_n (xT_n (xT_n (xT_n (xT_l (s_iload_n d155_0)) (xT_l (s_iload_n d155_1))) (xT_n (xT_l (s_iconst d155_2 (by decide +kernel))) (xT_n (xT_l (s_iushr d155_3)) (xT_l (s_ldcw d155_4 wd_1220 (by decide +kernel)))))) (xT_n (xT_n (xT_l (s_iand d155_7)) (xT_l (s_isub d155_8))) (xT_n (xT_l (s_istore_n d155_9)) (xT_n (xT_l (s_iload_n d155_10)) (xT_l (s_ldcw d155_11 wd_1221 (by decide +kernel))))))) (xT_n (xT_n (xT_n (xT_l (s_iand d155_14)) (xT_l (s_iload_n d155_15))) (xT_n (xT_l (s_iconst d155_16 (by decide +kernel))) (xT_n (xT_l (s_iushr d155_17)) (xT_l (s_ldcw d155_18 wd_1221 (by decide +kernel)))))) (xT_n (xT_n (xT_l (s_iand d155_21)) (xT_l (s_iadd d155_22))) (xT_n (xT_l (s_istore_n d155_23)) (xT_n (xT_l (s_iload_n d155_24)) (xT_l (s_iload_n d155_25))))))) (xT_n (xT_n (xT_n (xT_n (xT_l (s_iconst d155_26 (by decide +kernel))) (xT_l (s_iushr d155_27))) (xT_n (xT_l (s_iadd d155_28)) (xT_n (xT_l (s_ldcw d155_29 wd_1222 (by decide +kernel))) (xT_l (s_iand d155_32))))) (xT_n (xT_n (xT_l (s_istore_n d155_33)) (xT_l (s_iload_n d155_34))) (xT_n (xT_l (s_iload_n d155_35)) (xT_n (xT_l (s_bipush d155_36 (by decide +kernel))) (xT_l (s_iushr d155_38)))))) (xT_n (xT_n (xT_n (xT_l (s_iadd d155_39)) (xT_l (s_istore_n d155_40))) (xT_n (xT_l (s_iload_n d155_41)) (xT_n (xT_l (s_iload_n d155_42)) (xT_l (s_bipush d155_43 (by decide +kernel)))))) (xT_n (xT_n (xT_l (s_iushr d155_45)) (xT_n (xT_l (s_iadd d155_46)) (xT_l (s_istore_n d155_47)))) (xT_n (xT_l (s_iload_n d155_48)) (xT_n (xT_l (s_bipush d155_49 (by decide +kernel))) (xT_l (s_iand d155_51))))))))
set_option maxRecDepth 100000 in
set_option maxHeartbeats 4000000 in
theorem M_155 : xMeth PX 155 (T_155, 1, [(52, 1)]) := ⟨⟨"java/lang/Integer", "bitCount", "(I)I"⟩, prog_16_method_49_code, (some .int), rfl, by decide, fun G => T_155_ok G, xrt_ok (xR_c (Or.inl ⟨rfl, d155_52, rfl⟩) (xR_n))⟩
theorem d156_0 : decode prog_22_method_103_code 0 = .ok (.iconst 0, 1) := by decide +kernel
theorem d156_1 : decode prog_22_method_103_code 1 = .ok (.istore_n 2, 1) := by decide +kernel
theorem d156_2 : decode prog_22_method_103_code 2 = .ok (.aload_n 0, 1) := by decide +kernel
theorem d156_3 : decode prog_22_method_103_code 3 = .ok (.arraylength, 1) := by decide +kernel
theorem d156_4 : decode prog_22_method_103_code 4 = .ok (.istore_n 3, 1) := by decide +kernel
theorem d156_5 : decode prog_22_method_103_code 5 = .ok (.iload_n 2, 1) := by decide +kernel
theorem d156_6 : decode prog_22_method_103_code 6 = .ok (.iload_n 3, 1) := by decide +kernel
theorem d156_7 : decode prog_22_method_103_code 7 = .ok (.if_icmp .ge 13, 3) := by decide +kernel
theorem d156_10 : decode prog_22_method_103_code 10 = .ok (.aload_n 0, 1) := by decide +kernel
theorem d156_11 : decode prog_22_method_103_code 11 = .ok (.iload_n 2, 1) := by decide +kernel
theorem d156_12 : decode prog_22_method_103_code 12 = .ok (.iload_n 1, 1) := by decide +kernel
theorem d156_13 : decode prog_22_method_103_code 13 = .ok (.iastore, 1) := by decide +kernel
theorem d156_14 : decode prog_22_method_103_code 14 = .ok (.iinc 2 1, 3) := by decide +kernel
theorem d156_17 : decode prog_22_method_103_code 17 = .ok (.goto (-12), 3) := by decide +kernel
theorem d156_20 : decode prog_22_method_103_code 20 = .ok (.return_, 1) := by decide +kernel
noncomputable def T_156 : Nat → Option xF := bn 7 (bn 3 (bn 1 (bl 0 (x_const 2147483648 1)) (bn 2 (bl 1 (x_istore 2 2)) (bl 2 (x_aload 0 3)))) (bn 5 (bn 4 (bl 3 (x_alen 4)) (bl 4 (x_istore 3 5))) (bn 6 (bl 5 (x_iload 2 6)) (bl 6 (x_iload 3 7))))) (bn 12 (bn 10 (bl 7 (x_icmp 3 20 10)) (bn 11 (bl 10 (x_aload 0 11)) (bl 11 (x_iload 2 12)))) (bn 14 (bn 13 (bl 12 (x_iload 1 13)) (bl 13 (x_iast 14))) (bn 17 (bl 14 (x_iinc 2 2147483649 17)) (bl 17 (x_goto 5)))))
set_option maxRecDepth 100000 in
set_option maxHeartbeats 4000000 in
theorem T_156_ok (G : State → Nat → Nat → Prop) : xTree PX G prog_22_method_103_code "java/util/Arrays" false T_156 := (xT_n (xT_n (xT_n (xT_l (s_iconst d156_0 (by decide +kernel))) (xT_n (xT_l (s_istore_n d156_1)) (xT_l (s_aload_n d156_2)))) (xT_n (xT_n (xT_l (s_alen d156_3)) (xT_l (s_istore_n d156_4))) (xT_n (xT_l (s_iload_n d156_5)) (xT_l (s_iload_n d156_6))))) (xT_n (xT_n (xT_l (s_icmpge d156_7 (by decide +kernel))) (xT_n (xT_l (s_aload_n d156_10)) (xT_l (s_iload_n d156_11)))) (xT_n (xT_n (xT_l (s_iload_n d156_12)) (xT_l (s_iast d156_13))) (xT_n (xT_l (s_iinc d156_14 (by decide +kernel))) (xT_l (s_goto d156_17 (by decide +kernel)))))))
set_option maxRecDepth 100000 in
set_option maxHeartbeats 4000000 in
theorem M_156 : xMeth PX 156 (T_156, 4, [(20, 3)]) := ⟨⟨"java/util/Arrays", "fill", "([II)V"⟩, prog_22_method_103_code, none, rfl, by decide, fun G => T_156_ok G, xrt_ok (xR_c (Or.inr (Or.inr (Or.inl ⟨rfl, d156_20, rfl⟩))) (xR_n))⟩
end
