set_option maxRecDepth 100000 in
theorem wd_137 : Cond.code ⟨"CapitalCase", "<init>", "()V"⟩ prog_1_method_1_code 1 none ∈ xTB := xw 137 (rfl) (by decide +kernel)
set_option maxRecDepth 100000 in
theorem wd_145 : Cond.code ⟨"CapitalCase$Script", "<init>", "()V"⟩ prog_8_method_1_code 1 none ∈ xTB := xw 145 (rfl) (by decide +kernel)
set_option maxRecDepth 100000 in
theorem wd_150 : Cond.code ⟨"CapitalCase$Script", "wipe", "()V"⟩ prog_8_method_2_code 1 none ∈ xTB := xw 150 (rfl) (by decide +kernel)
set_option maxRecDepth 100000 in
theorem wd_153 : Cond.code ⟨"java/util/Arrays", "fill", "([II)V"⟩ prog_22_method_103_code 4 none ∈ xTB := xw 153 (rfl) (by decide +kernel)
set_option maxRecDepth 100000 in
theorem wd_157 : Cond.code ⟨"CapitalCase$Script", "layDown", "(III)V"⟩ prog_8_method_3_code 4 none ∈ xTB := xw 157 (rfl) (by decide +kernel)
set_option maxRecDepth 100000 in
theorem wd_161 : Cond.code ⟨"CapitalCase$Script", "add", "(II)V"⟩ prog_8_method_4_code 3 none ∈ xTB := xw 161 (rfl) (by decide +kernel)
set_option maxRecDepth 100000 in
theorem wd_258 : Cond.code ⟨"CapitalCase$Parser", "<init>", "([B)V"⟩ prog_4_method_1_code 2 none ∈ xTB := xw 258 (rfl) (by decide +kernel)
set_option maxRecDepth 100000 in
theorem wd_266 : Cond.code ⟨"CapitalCase$Tokens", "<init>", "()V"⟩ prog_9_method_1_code 1 none ∈ xTB := xw 266 (rfl) (by decide +kernel)
set_option maxRecDepth 100000 in
theorem wd_318 : Cond.code ⟨"CapitalCase$Town", "<init>", "()V"⟩ prog_10_method_1_code 1 none ∈ xTB := xw 318 (rfl) (by decide +kernel)
set_option maxRecDepth 100000 in
theorem wd_380 : Cond.code ⟨"CapitalCase$History", "<init>", "()V"⟩ prog_2_method_1_code 1 none ∈ xTB := xw 380 (rfl) (by decide +kernel)
set_option maxRecDepth 100000 in
theorem wd_399 : Cond.code ⟨"CapitalCase$Prints", "<init>", "()V"⟩ prog_7_method_1_code 1 none ∈ xTB := xw 399 (rfl) (by decide +kernel)
set_option maxRecDepth 100000 in
theorem wd_420 : Cond.code ⟨"CapitalCase$Judge", "<init>", "(LCapitalCase$Script;)V"⟩ prog_3_method_1_code 2 none ∈ xTB := xw 420 (rfl) (by decide +kernel)
set_option maxRecDepth 100000 in
theorem wd_436 : Cond.code ⟨"CapitalCase$Press", "<init>", "(LCapitalCase$Script;LCapitalCase$Judge;)V"⟩ prog_6_method_1_code 3 none ∈ xTB := xw 436 (rfl) (by decide +kernel)
set_option maxRecDepth 100000 in
theorem wd_449 : Cond.code ⟨"CapitalCase$Planner", "<init>", "(LCapitalCase$Script;LCapitalCase$Judge;)V"⟩ prog_5_method_1_code 3 none ∈ xTB := xw 449 (rfl) (by decide +kernel)
set_option maxRecDepth 100000 in
theorem wd_499 : Cond.code ⟨"CapitalCase$TwoDays", "<init>", "(LCapitalCase$Script;LCapitalCase$Judge;LCapitalCase$Press;LCapitalCase$Planner;)V"⟩ prog_12_method_1_code 5 none ∈ xTB := xw 499 (rfl) (by decide +kernel)
set_option maxRecDepth 100000 in
theorem wd_539 : Cond.code ⟨"CapitalCase$Trade", "<init>", "(LCapitalCase$Script;)V"⟩ prog_11_method_1_code 2 none ∈ xTB := xw 539 (rfl) (by decide +kernel)
set_option maxRecDepth 100000 in
theorem wd_605 : Cond.code ⟨"CapitalCase", "feed", "(IIIII)I"⟩ prog_1_method_2_code 6 (some .int) ∈ xTB := xw 605 (rfl) (by decide +kernel)
set_option maxRecDepth 100000 in
theorem wd_609 : Cond.code ⟨"CapitalCase", "append", "(I)V"⟩ prog_1_method_3_code 3 none ∈ xTB := xw 609 (rfl) (by decide +kernel)
set_option maxRecDepth 100000 in
theorem wd_613 : Cond.code ⟨"CapitalCase", "back", "(I)I"⟩ prog_1_method_4_code 2 (some .int) ∈ xTB := xw 613 (rfl) (by decide +kernel)
set_option maxRecDepth 100000 in
theorem wd_617 : Cond.code ⟨"CapitalCase", "read", "()I"⟩ prog_1_method_5_code 2 (some .int) ∈ xTB := xw 617 (rfl) (by decide +kernel)
set_option maxRecDepth 100000 in
theorem wd_621 : Cond.code ⟨"CapitalCase$Parser", "parse", "(I)I"⟩ prog_4_method_2_code 3 (some .int) ∈ xTB := xw 621 (rfl) (by decide +kernel)
set_option maxRecDepth 100000 in
theorem wd_626 : Cond.code ⟨"CapitalCase$Tokens", "scan", "([BI)V"⟩ prog_9_method_2_code 5 none ∈ xTB := xw 626 (rfl) (by decide +kernel)
set_option maxRecDepth 100000 in
theorem wd_759 : Cond.code ⟨"CapitalCase$Parser", "next", "()I"⟩ prog_4_method_3_code 1 (some .int) ∈ xTB := xw 759 (rfl) (by decide +kernel)
set_option maxRecDepth 100000 in
theorem wd_828 : Cond.code ⟨"CapitalCase$Script", "become", "(LCapitalCase$Script;)V"⟩ prog_8_method_6_code 2 none ∈ xTB := xw 828 (rfl) (by decide +kernel)
set_option maxRecDepth 100000 in
theorem wd_835 : Cond.code ⟨"CapitalCase", "beginAnew", "()V"⟩ prog_1_method_6_code 2 none ∈ xTB := xw 835 (rfl) (by decide +kernel)
set_option maxRecDepth 100000 in
theorem wd_839 : Cond.code ⟨"CapitalCase$Town", "begin", "(LCapitalCase$Script;)V"⟩ prog_10_method_2_code 2 none ∈ xTB := xw 839 (rfl) (by decide +kernel)
set_option maxRecDepth 100000 in
theorem wd_845 : Cond.code ⟨"CapitalCase", "place", "()I"⟩ prog_1_method_7_code 1 (some .int) ∈ xTB := xw 845 (rfl) (by decide +kernel)
set_option maxRecDepth 100000 in
theorem wd_849 : Cond.code ⟨"CapitalCase", "house", "(III)I"⟩ prog_1_method_12_code 5 (some .int) ∈ xTB := xw 849 (rfl) (by decide +kernel)
set_option maxRecDepth 100000 in
theorem wd_853 : Cond.code ⟨"CapitalCase", "isCell", "(II)Z"⟩ prog_1_method_9_code 3 (some .boolean) ∈ xTB := xw 853 (rfl) (by decide +kernel)
set_option maxRecDepth 100000 in
theorem wd_857 : Cond.code ⟨"CapitalCase", "isHouse", "(I)Z"⟩ prog_1_method_8_code 2 (some .boolean) ∈ xTB := xw 857 (rfl) (by decide +kernel)
set_option maxRecDepth 100000 in
theorem wd_861 : Cond.code ⟨"CapitalCase$Town", "free", "(I)I"⟩ prog_10_method_4_code 2 (some .int) ∈ xTB := xw 861 (rfl) (by decide +kernel)
set_option maxRecDepth 100000 in
theorem wd_893 : Cond.code ⟨"CapitalCase", "verse", "(II)I"⟩ prog_1_method_13_code 3 (some .int) ∈ xTB := xw 893 (rfl) (by decide +kernel)
set_option maxRecDepth 100000 in
theorem wd_897 : Cond.code ⟨"CapitalCase", "isVerse", "(I)Z"⟩ prog_1_method_10_code 2 (some .boolean) ∈ xTB := xw 897 (rfl) (by decide +kernel)
set_option maxRecDepth 100000 in
theorem wd_913 : Cond.code ⟨"CapitalCase", "wants", "(II)I"⟩ prog_1_method_15_code 3 (some .int) ∈ xTB := xw 913 (rfl) (by decide +kernel)
set_option maxRecDepth 100000 in
theorem wd_917 : Cond.code ⟨"CapitalCase", "tells", "(IIII)I"⟩ prog_1_method_16_code 5 (some .int) ∈ xTB := xw 917 (rfl) (by decide +kernel)
set_option maxRecDepth 100000 in
theorem wd_930 : Cond.code ⟨"CapitalCase", "set", "(I)Z"⟩ prog_1_method_17_code 2 (some .boolean) ∈ xTB := xw 930 (rfl) (by decide +kernel)
set_option maxRecDepth 100000 in
theorem wd_938 : Cond.code ⟨"CapitalCase$Town", "open", "(I)I"⟩ prog_10_method_7_code 2 (some .int) ∈ xTB := xw 938 (rfl) (by decide +kernel)
set_option maxRecDepth 100000 in
theorem wd_946 : Cond.code ⟨"CapitalCase$Planner", "prepare", "(LCapitalCase$Town;I)V"⟩ prog_5_method_2_code 5 none ∈ xTB := xw 946 (rfl) (by decide +kernel)
set_option maxRecDepth 100000 in
theorem wd_970 : Cond.code ⟨"CapitalCase$History", "keep", "(LCapitalCase$Town;)V"⟩ prog_2_method_2_code 3 none ∈ xTB := xw 970 (rfl) (by decide +kernel)
set_option maxRecDepth 100000 in
theorem wd_975 : Cond.code ⟨"CapitalCase$Town", "become", "(LCapitalCase$Town;)V"⟩ prog_10_method_3_code 2 none ∈ xTB := xw 975 (rfl) (by decide +kernel)
set_option maxRecDepth 100000 in
theorem wd_984 : Cond.code ⟨"CapitalCase", "clear", "(I)Z"⟩ prog_1_method_19_code 2 (some .boolean) ∈ xTB := xw 984 (rfl) (by decide +kernel)
set_option maxRecDepth 100000 in
theorem wd_992 : Cond.code ⟨"CapitalCase", "lend", "(III)Z"⟩ prog_1_method_20_code 4 (some .boolean) ∈ xTB := xw 992 (rfl) (by decide +kernel)
set_option maxRecDepth 100000 in
theorem wd_1000 : Cond.code ⟨"CapitalCase", "giveBack", "(III)Z"⟩ prog_1_method_21_code 5 (some .boolean) ∈ xTB := xw 1000 (rfl) (by decide +kernel)
set_option maxRecDepth 100000 in
theorem wd_1004 : Cond.code ⟨"CapitalCase", "days", "(I)I"⟩ prog_1_method_22_code 2 (some .int) ∈ xTB := xw 1004 (rfl) (by decide +kernel)
set_option maxRecDepth 100000 in
theorem wd_1008 : Cond.code ⟨"CapitalCase$Press", "passDays", "(LCapitalCase$Town;II)V"⟩ prog_6_method_2_code 5 none ∈ xTB := xw 1008 (rfl) (by decide +kernel)
set_option maxRecDepth 100000 in
theorem wd_1012 : Cond.code ⟨"CapitalCase$Press", "work", "(LCapitalCase$Town;)V"⟩ prog_6_method_4_code 4 none ∈ xTB := xw 1012 (rfl) (by decide +kernel)
set_option maxRecDepth 100000 in
theorem wd_1016 : Cond.code ⟨"CapitalCase$Press", "owed", "(LCapitalCase$Town;)I"⟩ prog_6_method_3_code 4 (some .int) ∈ xTB := xw 1016 (rfl) (by decide +kernel)
set_option maxRecDepth 100000 in
theorem wd_1031 : Cond.code ⟨"CapitalCase$Press", "steal", "(LCapitalCase$Town;I)V"⟩ prog_6_method_7_code 6 none ∈ xTB := xw 1031 (rfl) (by decide +kernel)
set_option maxRecDepth 100000 in
theorem wd_1035 : Cond.code ⟨"CapitalCase$Press", "thievesCome", "(II)Z"⟩ prog_6_method_6_code 3 (some .boolean) ∈ xTB := xw 1035 (rfl) (by decide +kernel)
set_option maxRecDepth 100000 in
theorem wd_1038 : Cond.code ⟨"CapitalCase$Press", "lot", "(III)I"⟩ prog_6_method_8_code 4 (some .int) ∈ xTB := xw 1038 (rfl) (by decide +kernel)
set_option maxRecDepth 100000 in
theorem wd_1041 : Cond.code ⟨"CapitalCase$Press", "mix", "(II)I"⟩ prog_6_method_9_code 3 (some .int) ∈ xTB := xw 1041 (rfl) (by decide +kernel)
set_option maxRecDepth 100000 in
theorem wd_1046 : Cond.code ⟨"CapitalCase", "undo", "()Z"⟩ prog_1_method_23_code 1 (some .boolean) ∈ xTB := xw 1046 (rfl) (by decide +kernel)
set_option maxRecDepth 100000 in
theorem wd_1050 : Cond.code ⟨"CapitalCase$History", "takeBack", "(LCapitalCase$Town;)Z"⟩ prog_2_method_3_code 4 (some .boolean) ∈ xTB := xw 1050 (rfl) (by decide +kernel)
set_option maxRecDepth 100000 in
theorem wd_1054 : Cond.code ⟨"CapitalCase", "from", "(II)I"⟩ prog_1_method_24_code 3 (some .int) ∈ xTB := xw 1054 (rfl) (by decide +kernel)
set_option maxRecDepth 100000 in
theorem wd_1059 : Cond.code ⟨"CapitalCase", "best", "(I)I"⟩ prog_1_method_25_code 2 (some .int) ∈ xTB := xw 1059 (rfl) (by decide +kernel)
set_option maxRecDepth 100000 in
theorem wd_1063 : Cond.code ⟨"CapitalCase$Planner", "seek", "(LCapitalCase$Town;)V"⟩ prog_5_method_7_code 2 none ∈ xTB := xw 1063 (rfl) (by decide +kernel)
set_option maxRecDepth 100000 in
theorem wd_1069 : Cond.code ⟨"CapitalCase$Planner", "search", "()V"⟩ prog_5_method_9_code 6 none ∈ xTB := xw 1069 (rfl) (by decide +kernel)
set_option maxRecDepth 100000 in
theorem wd_1074 : Cond.code ⟨"CapitalCase$Planner", "keepIfMore", "(II)V"⟩ prog_5_method_10_code 3 none ∈ xTB := xw 1074 (rfl) (by decide +kernel)
set_option maxRecDepth 100000 in
theorem wd_1081 : Cond.code ⟨"CapitalCase", "worth", "(II)I"⟩ prog_1_method_26_code 4 (some .int) ∈ xTB := xw 1081 (rfl) (by decide +kernel)
set_option maxRecDepth 100000 in
theorem wd_1086 : Cond.code ⟨"CapitalCase", "pillar", "(I)I"⟩ prog_1_method_27_code 5 (some .int) ∈ xTB := xw 1086 (rfl) (by decide +kernel)
set_option maxRecDepth 100000 in
theorem wd_1094 : Cond.code ⟨"CapitalCase", "twoDays", "(I)I"⟩ prog_1_method_28_code 2 (some .int) ∈ xTB := xw 1094 (rfl) (by decide +kernel)
set_option maxRecDepth 100000 in
theorem wd_1098 : Cond.code ⟨"CapitalCase$TwoDays", "seek", "(LCapitalCase$Town;)V"⟩ prog_12_method_2_code 6 none ∈ xTB := xw 1098 (rfl) (by decide +kernel)
set_option maxRecDepth 100000 in
theorem wd_1106 : Cond.code ⟨"CapitalCase$TwoDays", "total", "([II)I"⟩ prog_12_method_3_code 5 (some .int) ∈ xTB := xw 1106 (rfl) (by decide +kernel)
set_option maxRecDepth 100000 in
theorem wd_1110 : Cond.code ⟨"CapitalCase$TwoDays", "takeAll", "(I)Z"⟩ prog_12_method_4_code 3 (some .boolean) ∈ xTB := xw 1110 (rfl) (by decide +kernel)
set_option maxRecDepth 100000 in
theorem wd_1115 : Cond.code ⟨"CapitalCase$TwoDays", "giveUpAll", "(I)V"⟩ prog_12_method_5_code 3 none ∈ xTB := xw 1115 (rfl) (by decide +kernel)
set_option maxRecDepth 100000 in
theorem wd_1120 : Cond.code ⟨"CapitalCase$TwoDays", "passFirst", "(LCapitalCase$Town;I)V"⟩ prog_12_method_6_code 4 none ∈ xTB := xw 1120 (rfl) (by decide +kernel)
set_option maxRecDepth 100000 in
theorem wd_1129 : Cond.code ⟨"CapitalCase", "loans", "(II)I"⟩ prog_1_method_29_code 3 (some .int) ∈ xTB := xw 1129 (rfl) (by decide +kernel)
set_option maxRecDepth 100000 in
theorem wd_1142 : Cond.code ⟨"CapitalCase", "bargains", "(I)I"⟩ prog_1_method_30_code 2 (some .int) ∈ xTB := xw 1142 (rfl) (by decide +kernel)
set_option maxRecDepth 100000 in
theorem wd_1146 : Cond.code ⟨"CapitalCase$Trade", "seekBargains", "(LCapitalCase$Town;)V"⟩ prog_11_method_4_code 4 none ∈ xTB := xw 1146 (rfl) (by decide +kernel)
set_option maxRecDepth 100000 in
theorem wd_1164 : Cond.code ⟨"CapitalCase", "strike", "(I)I"⟩ prog_1_method_31_code 4 (some .int) ∈ xTB := xw 1164 (rfl) (by decide +kernel)
set_option maxRecDepth 100000 in
theorem wd_1172 : Cond.code ⟨"CapitalCase", "clash", "(I)I"⟩ prog_1_method_32_code 2 (some .int) ∈ xTB := xw 1172 (rfl) (by decide +kernel)
set_option maxRecDepth 100000 in
theorem wd_1176 : Cond.code ⟨"CapitalCase", "late", "()I"⟩ prog_1_method_33_code 3 (some .int) ∈ xTB := xw 1176 (rfl) (by decide +kernel)
set_option maxRecDepth 100000 in
theorem wd_1180 : Cond.code ⟨"CapitalCase", "wornOut", "(II)I"⟩ prog_1_method_34_code 3 (some .int) ∈ xTB := xw 1180 (rfl) (by decide +kernel)
set_option maxRecDepth 100000 in
theorem wd_1188 : Cond.code ⟨"CapitalCase", "then", "(IIII)I"⟩ prog_1_method_35_code 6 (some .int) ∈ xTB := xw 1188 (rfl) (by decide +kernel)
set_option maxRecDepth 100000 in
theorem wd_1192 : Cond.code ⟨"CapitalCase", "paidIn", "(I)I"⟩ prog_1_method_36_code 2 (some .int) ∈ xTB := xw 1192 (rfl) (by decide +kernel)
set_option maxRecDepth 100000 in
theorem wd_1196 : Cond.code ⟨"CapitalCase", "year", "(IIII)I"⟩ prog_1_method_37_code 7 (some .int) ∈ xTB := xw 1196 (rfl) (by decide +kernel)
set_option maxRecDepth 100000 in
theorem wd_1200 : Cond.code ⟨"CapitalCase", "tell", "(IIZ)I"⟩ prog_1_method_38_code 4 (some .int) ∈ xTB := xw 1200 (rfl) (by decide +kernel)
set_option maxRecDepth 100000 in
theorem wd_1204 : Cond.code ⟨"CapitalCase$Prints", "note", "(IIZ)I"⟩ prog_7_method_2_code 4 (some .int) ∈ xTB := xw 1204 (rfl) (by decide +kernel)
set_option maxRecDepth 100000 in
theorem wd_1208 : Cond.code ⟨"CapitalCase", "forget", "()I"⟩ prog_1_method_39_code 2 (some .int) ∈ xTB := xw 1208 (rfl) (by decide +kernel)
set_option maxRecDepth 100000 in
theorem wd_1212 : Cond.code ⟨"CapitalCase", "whose", "(II)I"⟩ prog_1_method_40_code 4 (some .int) ∈ xTB := xw 1212 (rfl) (by decide +kernel)
set_option maxRecDepth 100000 in
theorem wd_1216 : Cond.code ⟨"CapitalCase$Prints", "left", "(LCapitalCase$Town;II)I"⟩ prog_7_method_3_code 8 (some .int) ∈ xTB := xw 1216 (rfl) (by decide +kernel)
set_option maxRecDepth 100000 in
theorem wd_1219 : Cond.code ⟨"java/lang/Integer", "bitCount", "(I)I"⟩ prog_16_method_49_code 1 (some .int) ∈ xTB := xw 1219 (rfl) (by decide +kernel)
set_option maxRecDepth 100000 in
theorem wd_1226 : Cond.code ⟨"CapitalCase", "ask", "(II)I"⟩ prog_1_method_41_code 3 (some .int) ∈ xTB := xw 1226 (rfl) (by decide +kernel)
set_option maxRecDepth 100000 in
theorem wd_1230 : Cond.code ⟨"CapitalCase$Prints", "letterToAsk", "(LCapitalCase$Town;II)I"⟩ prog_7_method_4_code 9 (some .int) ∈ xTB := xw 1230 (rfl) (by decide +kernel)
set_option maxRecDepth 100000 in
theorem wd_1236 : Cond.code ⟨"CapitalCase", "hold", "(I)Z"⟩ prog_1_method_42_code 2 (some .boolean) ∈ xTB := xw 1236 (rfl) (by decide +kernel)
set_option maxRecDepth 100000 in
theorem wd_1240 : Cond.code ⟨"CapitalCase", "restore", "(I)Z"⟩ prog_1_method_43_code 2 (some .boolean) ∈ xTB := xw 1240 (rfl) (by decide +kernel)
set_option maxRecDepth 100000 in
theorem wd_1244 : Cond.code ⟨"CapitalCase", "count", "(I)I"⟩ prog_1_method_44_code 2 (some .int) ∈ xTB := xw 1244 (rfl) (by decide +kernel)
set_option maxRecDepth 100000 in
theorem wd_1247 : Cond.code ⟨"CapitalCase", "sum", "([I)I"⟩ prog_1_method_45_code 6 (some .int) ∈ xTB := xw 1247 (rfl) (by decide +kernel)
set_option maxRecDepth 100000 in
theorem wd_1251 : Cond.code ⟨"CapitalCase", "heldSlots", "()I"⟩ prog_1_method_46_code 3 (some .int) ∈ xTB := xw 1251 (rfl) (by decide +kernel)
set_option maxRecDepth 100000 in
theorem wd_1256 : Cond.code ⟨"CapitalCase", "settable", "()I"⟩ prog_1_method_47_code 3 (some .int) ∈ xTB := xw 1256 (rfl) (by decide +kernel)
set_option maxRecDepth 100000 in
theorem wd_1261 : Cond.code ⟨"CapitalCaseModel", "<init>", "()V"⟩ prog_14_method_2_code 1 none ∈ xTB := xw 1261 (rfl) (by decide +kernel)
set_option maxRecDepth 100000 in
theorem wd_1266 : Cond.code ⟨"CapitalCaseModel", "plain", "(I)V"⟩ prog_14_method_19_code 3 none ∈ xTB := xw 1266 (rfl) (by decide +kernel)
set_option maxRecDepth 100000 in
theorem wd_1269 : Cond.code ⟨"CapitalCaseModel", "word", "(IIIIIII)J"⟩ prog_14_method_10_code 7 (some .long) ∈ xTB := xw 1269 (rfl) (by decide +kernel)
set_option maxRecDepth 100000 in
theorem wd_1272 : Cond.code ⟨"CapitalCaseModel", "appends", "(JI)J"⟩ prog_14_method_9_code 3 (some .long) ∈ xTB := xw 1272 (rfl) (by decide +kernel)
set_option maxRecDepth 100000 in
theorem wd_1277 : Cond.code ⟨"CapitalCaseModel", "begins", "()V"⟩ prog_14_method_46_code 2 none ∈ xTB := xw 1277 (rfl) (by decide +kernel)
set_option maxRecDepth 100000 in
theorem wd_1281 : Cond.code ⟨"CapitalCaseModel", "keepsRow", "()V"⟩ prog_14_method_47_code 2 none ∈ xTB := xw 1281 (rfl) (by decide +kernel)
set_option maxRecDepth 100000 in
theorem wd_1496 : Cond.code ⟨"CapitalCaseModel", "feed", "(IIIII)I"⟩ prog_14_method_3_code 6 (some .int) ∈ xTB := xw 1496 (rfl) (by decide +kernel)
set_option maxRecDepth 100000 in
theorem wd_1500 : Cond.code ⟨"CapitalCaseModel", "put", "(I)V"⟩ prog_14_method_4_code 3 none ∈ xTB := xw 1500 (rfl) (by decide +kernel)
set_option maxRecDepth 100000 in
theorem wd_1504 : Cond.code ⟨"CapitalCaseModel", "back", "(I)I"⟩ prog_14_method_5_code 2 (some .int) ∈ xTB := xw 1504 (rfl) (by decide +kernel)
set_option maxRecDepth 100000 in
theorem wd_1508 : Cond.code ⟨"CapitalCaseModel", "read", "()I"⟩ prog_14_method_20_code 2 (some .int) ∈ xTB := xw 1508 (rfl) (by decide +kernel)
set_option maxRecDepth 100000 in
theorem wd_1512 : Cond.code ⟨"CapitalCaseModel", "cut", "()V"⟩ prog_14_method_12_code 8 none ∈ xTB := xw 1512 (rfl) (by decide +kernel)
set_option maxRecDepth 100000 in
theorem wd_1516 : Cond.code ⟨"CapitalCaseModel", "byteAt", "(I)I"⟩ prog_14_method_6_code 2 (some .int) ∈ xTB := xw 1516 (rfl) (by decide +kernel)
set_option maxRecDepth 100000 in
theorem wd_1520 : Cond.code ⟨"CapitalCaseModel", "token", "(IIIJ)V"⟩ prog_14_method_11_code 6 none ∈ xTB := xw 1520 (rfl) (by decide +kernel)
set_option maxRecDepth 100000 in
theorem wd_1534 : Cond.code ⟨"CapitalCaseModel", "is", "(I)Z"⟩ prog_14_method_14_code 2 (some .boolean) ∈ xTB := xw 1534 (rfl) (by decide +kernel)
set_option maxRecDepth 100000 in
theorem wd_1620 : Cond.code ⟨"CapitalCaseModel", "place", "()I"⟩ prog_14_method_21_code 1 (some .int) ∈ xTB := xw 1620 (rfl) (by decide +kernel)
set_option maxRecDepth 100000 in
theorem wd_1624 : Cond.code ⟨"CapitalCaseModel", "house", "(III)I"⟩ prog_14_method_72_code 5 (some .int) ∈ xTB := xw 1624 (rfl) (by decide +kernel)
set_option maxRecDepth 100000 in
theorem wd_1628 : Cond.code ⟨"CapitalCaseModel", "isHouse", "(I)Z"⟩ prog_14_method_43_code 2 (some .boolean) ∈ xTB := xw 1628 (rfl) (by decide +kernel)
set_option maxRecDepth 100000 in
theorem wd_1631 : Cond.code ⟨"CapitalCaseModel", "in", "(III)Z"⟩ prog_14_method_40_code 3 (some .boolean) ∈ xTB := xw 1631 (rfl) (by decide +kernel)
set_option maxRecDepth 100000 in
theorem wd_1634 : Cond.code ⟨"CapitalCaseModel", "isSort", "(I)Z"⟩ prog_14_method_44_code 1 (some .boolean) ∈ xTB := xw 1634 (rfl) (by decide +kernel)
set_option maxRecDepth 100000 in
theorem wd_1638 : Cond.code ⟨"CapitalCaseModel", "copies", "()V"⟩ prog_14_method_48_code 2 none ∈ xTB := xw 1638 (rfl) (by decide +kernel)
set_option maxRecDepth 100000 in
theorem wd_1677 : Cond.code ⟨"CapitalCaseModel", "verse", "(II)I"⟩ prog_14_method_73_code 3 (some .int) ∈ xTB := xw 1677 (rfl) (by decide +kernel)
set_option maxRecDepth 100000 in
theorem wd_1681 : Cond.code ⟨"CapitalCaseModel", "isVerse", "(I)Z"⟩ prog_14_method_45_code 2 (some .boolean) ∈ xTB := xw 1681 (rfl) (by decide +kernel)
set_option maxRecDepth 100000 in
theorem wd_1693 : Cond.code ⟨"CapitalCaseModel", "wants", "(II)I"⟩ prog_14_method_74_code 3 (some .int) ∈ xTB := xw 1693 (rfl) (by decide +kernel)
set_option maxRecDepth 100000 in
theorem wd_1697 : Cond.code ⟨"CapitalCaseModel", "tells", "(IIII)I"⟩ prog_14_method_75_code 5 (some .int) ∈ xTB := xw 1697 (rfl) (by decide +kernel)
set_option maxRecDepth 100000 in
theorem wd_1710 : Cond.code ⟨"CapitalCaseModel", "set", "(I)Z"⟩ prog_14_method_77_code 2 (some .boolean) ∈ xTB := xw 1710 (rfl) (by decide +kernel)
set_option maxRecDepth 100000 in
theorem wd_1730 : Cond.code ⟨"CapitalCaseModel", "records", "()V"⟩ prog_14_method_76_code 2 none ∈ xTB := xw 1730 (rfl) (by decide +kernel)
set_option maxRecDepth 100000 in
theorem wd_1734 : Cond.code ⟨"CapitalCaseModel", "clear", "(I)Z"⟩ prog_14_method_78_code 2 (some .boolean) ∈ xTB := xw 1734 (rfl) (by decide +kernel)
set_option maxRecDepth 100000 in
theorem wd_1738 : Cond.code ⟨"CapitalCaseModel", "lend", "(III)Z"⟩ prog_14_method_80_code 4 (some .boolean) ∈ xTB := xw 1738 (rfl) (by decide +kernel)
set_option maxRecDepth 100000 in
theorem wd_1742 : Cond.code ⟨"CapitalCaseModel", "areTwo", "(III)Z"⟩ prog_14_method_79_code 4 (some .boolean) ∈ xTB := xw 1742 (rfl) (by decide +kernel)
set_option maxRecDepth 100000 in
theorem wd_1746 : Cond.code ⟨"CapitalCaseModel", "giveBack", "(III)Z"⟩ prog_14_method_81_code 5 (some .boolean) ∈ xTB := xw 1746 (rfl) (by decide +kernel)
set_option maxRecDepth 100000 in
theorem wd_1750 : Cond.code ⟨"CapitalCaseModel", "days", "(I)I"⟩ prog_14_method_82_code 2 (some .int) ∈ xTB := xw 1750 (rfl) (by decide +kernel)
set_option maxRecDepth 100000 in
theorem wd_1753 : Cond.code ⟨"CapitalCaseModel", "isLong", "(I)Z"⟩ prog_14_method_101_code 1 (some .boolean) ∈ xTB := xw 1753 (rfl) (by decide +kernel)
set_option maxRecDepth 100000 in
theorem wd_1757 : Cond.code ⟨"CapitalCaseModel", "goes", "(I)V"⟩ prog_14_method_71_code 3 none ∈ xTB := xw 1757 (rfl) (by decide +kernel)
set_option maxRecDepth 100000 in
theorem wd_1761 : Cond.code ⟨"CapitalCaseModel", "dayGoes", "()V"⟩ prog_14_method_70_code 2 none ∈ xTB := xw 1761 (rfl) (by decide +kernel)
set_option maxRecDepth 100000 in
theorem wd_1769 : Cond.code ⟨"CapitalCaseModel", "areThieves", "()Z"⟩ prog_14_method_51_code 1 (some .boolean) ∈ xTB := xw 1769 (rfl) (by decide +kernel)
set_option maxRecDepth 100000 in
theorem wd_1773 : Cond.code ⟨"CapitalCaseModel", "lotOf", "(II)I"⟩ prog_14_method_50_code 3 (some .int) ∈ xTB := xw 1773 (rfl) (by decide +kernel)
set_option maxRecDepth 100000 in
theorem wd_1776 : Cond.code ⟨"CapitalCaseModel", "mixed", "(II)I"⟩ prog_14_method_49_code 3 (some .int) ∈ xTB := xw 1776 (rfl) (by decide +kernel)
set_option maxRecDepth 100000 in
theorem wd_1785 : Cond.code ⟨"CapitalCaseModel", "undo", "()Z"⟩ prog_14_method_83_code 2 (some .boolean) ∈ xTB := xw 1785 (rfl) (by decide +kernel)
set_option maxRecDepth 100000 in
theorem wd_1789 : Cond.code ⟨"CapitalCaseModel", "from", "(II)I"⟩ prog_14_method_84_code 3 (some .int) ∈ xTB := xw 1789 (rfl) (by decide +kernel)
set_option maxRecDepth 100000 in
theorem wd_1793 : Cond.code ⟨"CapitalCaseModel", "best", "(I)I"⟩ prog_14_method_88_code 2 (some .int) ∈ xTB := xw 1793 (rfl) (by decide +kernel)
set_option maxRecDepth 100000 in
theorem wd_1797 : Cond.code ⟨"CapitalCaseModel", "findsBest", "()V"⟩ prog_14_method_87_code 5 none ∈ xTB := xw 1797 (rfl) (by decide +kernel)
set_option maxRecDepth 100000 in
theorem wd_1801 : Cond.code ⟨"CapitalCaseModel", "openBits", "()I"⟩ prog_14_method_67_code 3 (some .int) ∈ xTB := xw 1801 (rfl) (by decide +kernel)
set_option maxRecDepth 100000 in
theorem wd_1805 : Cond.code ⟨"CapitalCaseModel", "keepsAhead", "()V"⟩ prog_14_method_85_code 2 none ∈ xTB := xw 1805 (rfl) (by decide +kernel)
set_option maxRecDepth 100000 in
theorem wd_1813 : Cond.code ⟨"CapitalCaseModel", "worth", "(II)I"⟩ prog_14_method_89_code 4 (some .int) ∈ xTB := xw 1813 (rfl) (by decide +kernel)
set_option maxRecDepth 100000 in
theorem wd_1817 : Cond.code ⟨"CapitalCaseModel", "pillar", "(I)I"⟩ prog_14_method_90_code 5 (some .int) ∈ xTB := xw 1817 (rfl) (by decide +kernel)
set_option maxRecDepth 100000 in
theorem wd_1821 : Cond.code ⟨"CapitalCaseModel", "twoDays", "(I)I"⟩ prog_14_method_92_code 7 (some .int) ∈ xTB := xw 1821 (rfl) (by decide +kernel)
set_option maxRecDepth 100000 in
theorem wd_1825 : Cond.code ⟨"CapitalCaseModel", "firstDay", "(I)I"⟩ prog_14_method_91_code 3 (some .int) ∈ xTB := xw 1825 (rfl) (by decide +kernel)
set_option maxRecDepth 100000 in
theorem wd_1829 : Cond.code ⟨"CapitalCaseModel", "loans", "(II)I"⟩ prog_14_method_94_code 8 (some .int) ∈ xTB := xw 1829 (rfl) (by decide +kernel)
set_option maxRecDepth 100000 in
theorem wd_1837 : Cond.code ⟨"CapitalCaseModel", "bargains", "(I)I"⟩ prog_14_method_97_code 7 (some .int) ∈ xTB := xw 1837 (rfl) (by decide +kernel)
set_option maxRecDepth 100000 in
theorem wd_1849 : Cond.code ⟨"CapitalCaseModel", "strike", "(I)I"⟩ prog_14_method_98_code 5 (some .int) ∈ xTB := xw 1849 (rfl) (by decide +kernel)
set_option maxRecDepth 100000 in
theorem wd_1853 : Cond.code ⟨"CapitalCaseModel", "clash", "(I)I"⟩ prog_14_method_99_code 6 (some .int) ∈ xTB := xw 1853 (rfl) (by decide +kernel)
set_option maxRecDepth 100000 in
theorem wd_1857 : Cond.code ⟨"CapitalCaseModel", "late", "()I"⟩ prog_14_method_100_code 3 (some .int) ∈ xTB := xw 1857 (rfl) (by decide +kernel)
set_option maxRecDepth 100000 in
theorem wd_1861 : Cond.code ⟨"CapitalCaseModel", "wornOut", "(II)I"⟩ prog_14_method_102_code 4 (some .int) ∈ xTB := xw 1861 (rfl) (by decide +kernel)
set_option maxRecDepth 100000 in
theorem wd_1865 : Cond.code ⟨"CapitalCaseModel", "then", "(IIII)I"⟩ prog_14_method_103_code 5 (some .int) ∈ xTB := xw 1865 (rfl) (by decide +kernel)
set_option maxRecDepth 100000 in
theorem wd_1869 : Cond.code ⟨"CapitalCaseModel", "paidIn", "(I)I"⟩ prog_14_method_104_code 2 (some .int) ∈ xTB := xw 1869 (rfl) (by decide +kernel)
set_option maxRecDepth 100000 in
theorem wd_1873 : Cond.code ⟨"CapitalCaseModel", "year", "(IIII)I"⟩ prog_14_method_105_code 7 (some .int) ∈ xTB := xw 1873 (rfl) (by decide +kernel)
set_option maxRecDepth 100000 in
theorem wd_1877 : Cond.code ⟨"CapitalCaseModel", "tell", "(IIZ)I"⟩ prog_14_method_106_code 4 (some .int) ∈ xTB := xw 1877 (rfl) (by decide +kernel)
set_option maxRecDepth 100000 in
theorem wd_1881 : Cond.code ⟨"CapitalCaseModel", "forget", "()I"⟩ prog_14_method_107_code 2 (some .int) ∈ xTB := xw 1881 (rfl) (by decide +kernel)
set_option maxRecDepth 100000 in
theorem wd_1885 : Cond.code ⟨"CapitalCaseModel", "whose", "(II)I"⟩ prog_14_method_109_code 4 (some .int) ∈ xTB := xw 1885 (rfl) (by decide +kernel)
set_option maxRecDepth 100000 in
theorem wd_1889 : Cond.code ⟨"CapitalCaseModel", "whoseBits", "(I)I"⟩ prog_14_method_108_code 6 (some .int) ∈ xTB := xw 1889 (rfl) (by decide +kernel)
set_option maxRecDepth 100000 in
theorem wd_1892 : Cond.code ⟨"CapitalCaseModel", "bits", "(I)I"⟩ prog_14_method_42_code 3 (some .int) ∈ xTB := xw 1892 (rfl) (by decide +kernel)
set_option maxRecDepth 100000 in
theorem wd_1896 : Cond.code ⟨"CapitalCaseModel", "ask", "(II)I"⟩ prog_14_method_110_code 9 (some .int) ∈ xTB := xw 1896 (rfl) (by decide +kernel)
set_option maxRecDepth 100000 in
theorem wd_1900 : Cond.code ⟨"CapitalCaseModel", "hold", "(I)Z"⟩ prog_14_method_111_code 3 (some .boolean) ∈ xTB := xw 1900 (rfl) (by decide +kernel)
set_option maxRecDepth 100000 in
theorem wd_1904 : Cond.code ⟨"CapitalCaseModel", "restore", "(I)Z"⟩ prog_14_method_112_code 3 (some .boolean) ∈ xTB := xw 1904 (rfl) (by decide +kernel)
set_option maxRecDepth 100000 in
theorem wd_1908 : Cond.code ⟨"CapitalCaseModel", "count", "(I)I"⟩ prog_14_method_115_code 5 (some .int) ∈ xTB := xw 1908 (rfl) (by decide +kernel)
set_option maxRecDepth 100000 in
theorem wd_1912 : Cond.code ⟨"CapitalCaseModel", "versesSo", "(II)I"⟩ prog_14_method_114_code 5 (some .int) ∈ xTB := xw 1912 (rfl) (by decide +kernel)
set_option maxRecDepth 100000 in
theorem wd_1916 : Cond.code ⟨"CapitalCaseModel", "sumNow", "(II)I"⟩ prog_14_method_113_code 5 (some .int) ∈ xTB := xw 1916 (rfl) (by decide +kernel)
set_option maxRecDepth 100000 in
theorem wd_obj : Cond.code objectInit ⟨#[0xb1]⟩ 1 none ∈ xTB := xw 140 rfl (by decide +kernel)
set_option maxRecDepth 100000 in
theorem wd_max : Cond.code Lib.Math.max.name Lib.Math.max.code 2 (some .int) ∈ xTB := xw 714 rfl (by decide +kernel)
set_option maxRecDepth 100000 in
theorem wd_min : Cond.code Lib.Math.min.name Lib.Math.min.code 2 (some .int) ∈ xTB := xw 717 rfl (by decide +kernel)
noncomputable def PX : xPX := bn 78 (bn 39 (bn 19 (bn 9 (bn 4 (bn 2 (bn 1 (bl 0 ((⟨"CapitalCase$History", "<init>", "()V"⟩, prog_2_method_1_code, 1, none))) (bl 1 ((⟨"CapitalCase$History", "keep", "(LCapitalCase$Town;)V"⟩, prog_2_method_2_code, 3, none)))) (bn 3 (bl 2 ((⟨"CapitalCase$History", "takeBack", "(LCapitalCase$Town;)Z"⟩, prog_2_method_3_code, 4, (some .boolean)))) (bl 3 ((⟨"CapitalCase$Judge", "<init>", "(LCapitalCase$Script;)V"⟩, prog_3_method_1_code, 2, none))))) (bn 6 (bn 5 (bl 4 ((⟨"CapitalCase$Parser", "<init>", "([B)V"⟩, prog_4_method_1_code, 2, none))) (bl 5 ((⟨"CapitalCase$Parser", "next", "()I"⟩, prog_4_method_3_code, 1, (some .int))))) (bn 7 (bl 6 ((⟨"CapitalCase$Parser", "parse", "(I)I"⟩, prog_4_method_2_code, 3, (some .int)))) (bn 8 (bl 7 ((⟨"CapitalCase$Planner", "<init>", "(LCapitalCase$Script;LCapitalCase$Judge;)V"⟩, prog_5_method_1_code, 3, none))) (bl 8 ((⟨"CapitalCase$Planner", "keepIfMore", "(II)V"⟩, prog_5_method_10_code, 3, none))))))) (bn 14 (bn 11 (bn 10 (bl 9 ((⟨"CapitalCase$Planner", "prepare", "(LCapitalCase$Town;I)V"⟩, prog_5_method_2_code, 5, none))) (bl 10 ((⟨"CapitalCase$Planner", "search", "()V"⟩, prog_5_method_9_code, 6, none)))) (bn 12 (bl 11 ((⟨"CapitalCase$Planner", "seek", "(LCapitalCase$Town;)V"⟩, prog_5_method_7_code, 2, none))) (bn 13 (bl 12 ((⟨"CapitalCase$Press", "<init>", "(LCapitalCase$Script;LCapitalCase$Judge;)V"⟩, prog_6_method_1_code, 3, none))) (bl 13 ((⟨"CapitalCase$Press", "lot", "(III)I"⟩, prog_6_method_8_code, 4, (some .int))))))) (bn 16 (bn 15 (bl 14 ((⟨"CapitalCase$Press", "mix", "(II)I"⟩, prog_6_method_9_code, 3, (some .int)))) (bl 15 ((⟨"CapitalCase$Press", "owed", "(LCapitalCase$Town;)I"⟩, prog_6_method_3_code, 4, (some .int))))) (bn 17 (bl 16 ((⟨"CapitalCase$Press", "passDays", "(LCapitalCase$Town;II)V"⟩, prog_6_method_2_code, 5, none))) (bn 18 (bl 17 ((⟨"CapitalCase$Press", "steal", "(LCapitalCase$Town;I)V"⟩, prog_6_method_7_code, 6, none))) (bl 18 ((⟨"CapitalCase$Press", "thievesCome", "(II)Z"⟩, prog_6_method_6_code, 3, (some .boolean))))))))) (bn 29 (bn 24 (bn 21 (bn 20 (bl 19 ((⟨"CapitalCase$Press", "work", "(LCapitalCase$Town;)V"⟩, prog_6_method_4_code, 4, none))) (bl 20 ((⟨"CapitalCase$Prints", "<init>", "()V"⟩, prog_7_method_1_code, 1, none)))) (bn 22 (bl 21 ((⟨"CapitalCase$Prints", "left", "(LCapitalCase$Town;II)I"⟩, prog_7_method_3_code, 8, (some .int)))) (bn 23 (bl 22 ((⟨"CapitalCase$Prints", "letterToAsk", "(LCapitalCase$Town;II)I"⟩, prog_7_method_4_code, 9, (some .int)))) (bl 23 ((⟨"CapitalCase$Prints", "note", "(IIZ)I"⟩, prog_7_method_2_code, 4, (some .int))))))) (bn 26 (bn 25 (bl 24 ((⟨"CapitalCase$Script", "<init>", "()V"⟩, prog_8_method_1_code, 1, none))) (bl 25 ((⟨"CapitalCase$Script", "add", "(II)V"⟩, prog_8_method_4_code, 3, none)))) (bn 27 (bl 26 ((⟨"CapitalCase$Script", "become", "(LCapitalCase$Script;)V"⟩, prog_8_method_6_code, 2, none))) (bn 28 (bl 27 ((⟨"CapitalCase$Script", "layDown", "(III)V"⟩, prog_8_method_3_code, 4, none))) (bl 28 ((⟨"CapitalCase$Script", "wipe", "()V"⟩, prog_8_method_2_code, 1, none))))))) (bn 34 (bn 31 (bn 30 (bl 29 ((⟨"CapitalCase$Tokens", "<init>", "()V"⟩, prog_9_method_1_code, 1, none))) (bl 30 ((⟨"CapitalCase$Tokens", "scan", "([BI)V"⟩, prog_9_method_2_code, 5, none)))) (bn 32 (bl 31 ((⟨"CapitalCase$Town", "<init>", "()V"⟩, prog_10_method_1_code, 1, none))) (bn 33 (bl 32 ((⟨"CapitalCase$Town", "become", "(LCapitalCase$Town;)V"⟩, prog_10_method_3_code, 2, none))) (bl 33 ((⟨"CapitalCase$Town", "begin", "(LCapitalCase$Script;)V"⟩, prog_10_method_2_code, 2, none)))))) (bn 36 (bn 35 (bl 34 ((⟨"CapitalCase$Town", "free", "(I)I"⟩, prog_10_method_4_code, 2, (some .int)))) (bl 35 ((⟨"CapitalCase$Town", "open", "(I)I"⟩, prog_10_method_7_code, 2, (some .int))))) (bn 37 (bl 36 ((⟨"CapitalCase$Trade", "<init>", "(LCapitalCase$Script;)V"⟩, prog_11_method_1_code, 2, none))) (bn 38 (bl 37 ((⟨"CapitalCase$Trade", "seekBargains", "(LCapitalCase$Town;)V"⟩, prog_11_method_4_code, 4, none))) (bl 38 ((⟨"CapitalCase$TwoDays", "<init>", "(LCapitalCase$Script;LCapitalCase$Judge;LCapitalCase$Press;LCapitalCase$Planner;)V"⟩, prog_12_method_1_code, 5, none))))))))) (bn 58 (bn 48 (bn 43 (bn 41 (bn 40 (bl 39 ((⟨"CapitalCase$TwoDays", "giveUpAll", "(I)V"⟩, prog_12_method_5_code, 3, none))) (bl 40 ((⟨"CapitalCase$TwoDays", "passFirst", "(LCapitalCase$Town;I)V"⟩, prog_12_method_6_code, 4, none)))) (bn 42 (bl 41 ((⟨"CapitalCase$TwoDays", "seek", "(LCapitalCase$Town;)V"⟩, prog_12_method_2_code, 6, none))) (bl 42 ((⟨"CapitalCase$TwoDays", "takeAll", "(I)Z"⟩, prog_12_method_4_code, 3, (some .boolean)))))) (bn 45 (bn 44 (bl 43 ((⟨"CapitalCase$TwoDays", "total", "([II)I"⟩, prog_12_method_3_code, 5, (some .int)))) (bl 44 ((⟨"CapitalCase", "<init>", "()V"⟩, prog_1_method_1_code, 1, none)))) (bn 46 (bl 45 ((⟨"CapitalCase", "append", "(I)V"⟩, prog_1_method_3_code, 3, none))) (bn 47 (bl 46 ((⟨"CapitalCase", "ask", "(II)I"⟩, prog_1_method_41_code, 3, (some .int)))) (bl 47 ((⟨"CapitalCase", "back", "(I)I"⟩, prog_1_method_4_code, 2, (some .int)))))))) (bn 53 (bn 50 (bn 49 (bl 48 ((⟨"CapitalCase", "bargains", "(I)I"⟩, prog_1_method_30_code, 2, (some .int)))) (bl 49 ((⟨"CapitalCase", "beginAnew", "()V"⟩, prog_1_method_6_code, 2, none)))) (bn 51 (bl 50 ((⟨"CapitalCase", "best", "(I)I"⟩, prog_1_method_25_code, 2, (some .int)))) (bn 52 (bl 51 ((⟨"CapitalCase", "clash", "(I)I"⟩, prog_1_method_32_code, 2, (some .int)))) (bl 52 ((⟨"CapitalCase", "clear", "(I)Z"⟩, prog_1_method_19_code, 2, (some .boolean))))))) (bn 55 (bn 54 (bl 53 ((⟨"CapitalCase", "count", "(I)I"⟩, prog_1_method_44_code, 2, (some .int)))) (bl 54 ((⟨"CapitalCase", "days", "(I)I"⟩, prog_1_method_22_code, 2, (some .int))))) (bn 56 (bl 55 ((⟨"CapitalCase", "feed", "(IIIII)I"⟩, prog_1_method_2_code, 6, (some .int)))) (bn 57 (bl 56 ((⟨"CapitalCase", "forget", "()I"⟩, prog_1_method_39_code, 2, (some .int)))) (bl 57 ((⟨"CapitalCase", "from", "(II)I"⟩, prog_1_method_24_code, 3, (some .int))))))))) (bn 68 (bn 63 (bn 60 (bn 59 (bl 58 ((⟨"CapitalCase", "giveBack", "(III)Z"⟩, prog_1_method_21_code, 5, (some .boolean)))) (bl 59 ((⟨"CapitalCase", "heldSlots", "()I"⟩, prog_1_method_46_code, 3, (some .int))))) (bn 61 (bl 60 ((⟨"CapitalCase", "hold", "(I)Z"⟩, prog_1_method_42_code, 2, (some .boolean)))) (bn 62 (bl 61 ((⟨"CapitalCase", "house", "(III)I"⟩, prog_1_method_12_code, 5, (some .int)))) (bl 62 ((⟨"CapitalCase", "isCell", "(II)Z"⟩, prog_1_method_9_code, 3, (some .boolean))))))) (bn 65 (bn 64 (bl 63 ((⟨"CapitalCase", "isHouse", "(I)Z"⟩, prog_1_method_8_code, 2, (some .boolean)))) (bl 64 ((⟨"CapitalCase", "isVerse", "(I)Z"⟩, prog_1_method_10_code, 2, (some .boolean))))) (bn 66 (bl 65 ((⟨"CapitalCase", "late", "()I"⟩, prog_1_method_33_code, 3, (some .int)))) (bn 67 (bl 66 ((⟨"CapitalCase", "lend", "(III)Z"⟩, prog_1_method_20_code, 4, (some .boolean)))) (bl 67 ((⟨"CapitalCase", "loans", "(II)I"⟩, prog_1_method_29_code, 3, (some .int)))))))) (bn 73 (bn 70 (bn 69 (bl 68 ((⟨"CapitalCase", "paidIn", "(I)I"⟩, prog_1_method_36_code, 2, (some .int)))) (bl 69 ((⟨"CapitalCase", "pillar", "(I)I"⟩, prog_1_method_27_code, 5, (some .int))))) (bn 71 (bl 70 ((⟨"CapitalCase", "place", "()I"⟩, prog_1_method_7_code, 1, (some .int)))) (bn 72 (bl 71 ((⟨"CapitalCase", "read", "()I"⟩, prog_1_method_5_code, 2, (some .int)))) (bl 72 ((⟨"CapitalCase", "restore", "(I)Z"⟩, prog_1_method_43_code, 2, (some .boolean))))))) (bn 75 (bn 74 (bl 73 ((⟨"CapitalCase", "set", "(I)Z"⟩, prog_1_method_17_code, 2, (some .boolean)))) (bl 74 ((⟨"CapitalCase", "settable", "()I"⟩, prog_1_method_47_code, 3, (some .int))))) (bn 76 (bl 75 ((⟨"CapitalCase", "strike", "(I)I"⟩, prog_1_method_31_code, 4, (some .int)))) (bn 77 (bl 76 ((⟨"CapitalCase", "sum", "([I)I"⟩, prog_1_method_45_code, 6, (some .int)))) (bl 77 ((⟨"CapitalCase", "tell", "(IIZ)I"⟩, prog_1_method_38_code, 4, (some .int))))))))))) (bn 117 (bn 97 (bn 87 (bn 82 (bn 80 (bn 79 (bl 78 ((⟨"CapitalCase", "tells", "(IIII)I"⟩, prog_1_method_16_code, 5, (some .int)))) (bl 79 ((⟨"CapitalCase", "then", "(IIII)I"⟩, prog_1_method_35_code, 6, (some .int))))) (bn 81 (bl 80 ((⟨"CapitalCase", "twoDays", "(I)I"⟩, prog_1_method_28_code, 2, (some .int)))) (bl 81 ((⟨"CapitalCase", "undo", "()Z"⟩, prog_1_method_23_code, 1, (some .boolean)))))) (bn 84 (bn 83 (bl 82 ((⟨"CapitalCase", "verse", "(II)I"⟩, prog_1_method_13_code, 3, (some .int)))) (bl 83 ((⟨"CapitalCase", "wants", "(II)I"⟩, prog_1_method_15_code, 3, (some .int))))) (bn 85 (bl 84 ((⟨"CapitalCase", "whose", "(II)I"⟩, prog_1_method_40_code, 4, (some .int)))) (bn 86 (bl 85 ((⟨"CapitalCase", "wornOut", "(II)I"⟩, prog_1_method_34_code, 3, (some .int)))) (bl 86 ((⟨"CapitalCase", "worth", "(II)I"⟩, prog_1_method_26_code, 4, (some .int)))))))) (bn 92 (bn 89 (bn 88 (bl 87 ((⟨"CapitalCase", "year", "(IIII)I"⟩, prog_1_method_37_code, 7, (some .int)))) (bl 88 ((⟨"CapitalCaseModel", "<init>", "()V"⟩, prog_14_method_2_code, 1, none)))) (bn 90 (bl 89 ((⟨"CapitalCaseModel", "appends", "(JI)J"⟩, prog_14_method_9_code, 3, (some .long)))) (bn 91 (bl 90 ((⟨"CapitalCaseModel", "areThieves", "()Z"⟩, prog_14_method_51_code, 1, (some .boolean)))) (bl 91 ((⟨"CapitalCaseModel", "areTwo", "(III)Z"⟩, prog_14_method_79_code, 4, (some .boolean))))))) (bn 94 (bn 93 (bl 92 ((⟨"CapitalCaseModel", "ask", "(II)I"⟩, prog_14_method_110_code, 9, (some .int)))) (bl 93 ((⟨"CapitalCaseModel", "back", "(I)I"⟩, prog_14_method_5_code, 2, (some .int))))) (bn 95 (bl 94 ((⟨"CapitalCaseModel", "bargains", "(I)I"⟩, prog_14_method_97_code, 7, (some .int)))) (bn 96 (bl 95 ((⟨"CapitalCaseModel", "begins", "()V"⟩, prog_14_method_46_code, 2, none))) (bl 96 ((⟨"CapitalCaseModel", "best", "(I)I"⟩, prog_14_method_88_code, 2, (some .int))))))))) (bn 107 (bn 102 (bn 99 (bn 98 (bl 97 ((⟨"CapitalCaseModel", "bits", "(I)I"⟩, prog_14_method_42_code, 3, (some .int)))) (bl 98 ((⟨"CapitalCaseModel", "byteAt", "(I)I"⟩, prog_14_method_6_code, 2, (some .int))))) (bn 100 (bl 99 ((⟨"CapitalCaseModel", "clash", "(I)I"⟩, prog_14_method_99_code, 6, (some .int)))) (bn 101 (bl 100 ((⟨"CapitalCaseModel", "clear", "(I)Z"⟩, prog_14_method_78_code, 2, (some .boolean)))) (bl 101 ((⟨"CapitalCaseModel", "copies", "()V"⟩, prog_14_method_48_code, 2, none)))))) (bn 104 (bn 103 (bl 102 ((⟨"CapitalCaseModel", "count", "(I)I"⟩, prog_14_method_115_code, 5, (some .int)))) (bl 103 ((⟨"CapitalCaseModel", "cut", "()V"⟩, prog_14_method_12_code, 8, none)))) (bn 105 (bl 104 ((⟨"CapitalCaseModel", "dayGoes", "()V"⟩, prog_14_method_70_code, 2, none))) (bn 106 (bl 105 ((⟨"CapitalCaseModel", "days", "(I)I"⟩, prog_14_method_82_code, 2, (some .int)))) (bl 106 ((⟨"CapitalCaseModel", "feed", "(IIIII)I"⟩, prog_14_method_3_code, 6, (some .int)))))))) (bn 112 (bn 109 (bn 108 (bl 107 ((⟨"CapitalCaseModel", "findsBest", "()V"⟩, prog_14_method_87_code, 5, none))) (bl 108 ((⟨"CapitalCaseModel", "firstDay", "(I)I"⟩, prog_14_method_91_code, 3, (some .int))))) (bn 110 (bl 109 ((⟨"CapitalCaseModel", "forget", "()I"⟩, prog_14_method_107_code, 2, (some .int)))) (bn 111 (bl 110 ((⟨"CapitalCaseModel", "from", "(II)I"⟩, prog_14_method_84_code, 3, (some .int)))) (bl 111 ((⟨"CapitalCaseModel", "giveBack", "(III)Z"⟩, prog_14_method_81_code, 5, (some .boolean))))))) (bn 114 (bn 113 (bl 112 ((⟨"CapitalCaseModel", "goes", "(I)V"⟩, prog_14_method_71_code, 3, none))) (bl 113 ((⟨"CapitalCaseModel", "hold", "(I)Z"⟩, prog_14_method_111_code, 3, (some .boolean))))) (bn 115 (bl 114 ((⟨"CapitalCaseModel", "house", "(III)I"⟩, prog_14_method_72_code, 5, (some .int)))) (bn 116 (bl 115 ((⟨"CapitalCaseModel", "in", "(III)Z"⟩, prog_14_method_40_code, 3, (some .boolean)))) (bl 116 ((⟨"CapitalCaseModel", "is", "(I)Z"⟩, prog_14_method_14_code, 2, (some .boolean)))))))))) (bn 137 (bn 127 (bn 122 (bn 119 (bn 118 (bl 117 ((⟨"CapitalCaseModel", "isHouse", "(I)Z"⟩, prog_14_method_43_code, 2, (some .boolean)))) (bl 118 ((⟨"CapitalCaseModel", "isLong", "(I)Z"⟩, prog_14_method_101_code, 1, (some .boolean))))) (bn 120 (bl 119 ((⟨"CapitalCaseModel", "isSort", "(I)Z"⟩, prog_14_method_44_code, 1, (some .boolean)))) (bn 121 (bl 120 ((⟨"CapitalCaseModel", "isVerse", "(I)Z"⟩, prog_14_method_45_code, 2, (some .boolean)))) (bl 121 ((⟨"CapitalCaseModel", "keepsAhead", "()V"⟩, prog_14_method_85_code, 2, none)))))) (bn 124 (bn 123 (bl 122 ((⟨"CapitalCaseModel", "keepsRow", "()V"⟩, prog_14_method_47_code, 2, none))) (bl 123 ((⟨"CapitalCaseModel", "late", "()I"⟩, prog_14_method_100_code, 3, (some .int))))) (bn 125 (bl 124 ((⟨"CapitalCaseModel", "lend", "(III)Z"⟩, prog_14_method_80_code, 4, (some .boolean)))) (bn 126 (bl 125 ((⟨"CapitalCaseModel", "loans", "(II)I"⟩, prog_14_method_94_code, 8, (some .int)))) (bl 126 ((⟨"CapitalCaseModel", "lotOf", "(II)I"⟩, prog_14_method_50_code, 3, (some .int)))))))) (bn 132 (bn 129 (bn 128 (bl 127 ((⟨"CapitalCaseModel", "mixed", "(II)I"⟩, prog_14_method_49_code, 3, (some .int)))) (bl 128 ((⟨"CapitalCaseModel", "openBits", "()I"⟩, prog_14_method_67_code, 3, (some .int))))) (bn 130 (bl 129 ((⟨"CapitalCaseModel", "paidIn", "(I)I"⟩, prog_14_method_104_code, 2, (some .int)))) (bn 131 (bl 130 ((⟨"CapitalCaseModel", "pillar", "(I)I"⟩, prog_14_method_90_code, 5, (some .int)))) (bl 131 ((⟨"CapitalCaseModel", "place", "()I"⟩, prog_14_method_21_code, 1, (some .int))))))) (bn 134 (bn 133 (bl 132 ((⟨"CapitalCaseModel", "plain", "(I)V"⟩, prog_14_method_19_code, 3, none))) (bl 133 ((⟨"CapitalCaseModel", "put", "(I)V"⟩, prog_14_method_4_code, 3, none)))) (bn 135 (bl 134 ((⟨"CapitalCaseModel", "read", "()I"⟩, prog_14_method_20_code, 2, (some .int)))) (bn 136 (bl 135 ((⟨"CapitalCaseModel", "records", "()V"⟩, prog_14_method_76_code, 2, none))) (bl 136 ((⟨"CapitalCaseModel", "restore", "(I)Z"⟩, prog_14_method_112_code, 3, (some .boolean))))))))) (bn 147 (bn 142 (bn 139 (bn 138 (bl 137 ((⟨"CapitalCaseModel", "set", "(I)Z"⟩, prog_14_method_77_code, 2, (some .boolean)))) (bl 138 ((⟨"CapitalCaseModel", "strike", "(I)I"⟩, prog_14_method_98_code, 5, (some .int))))) (bn 140 (bl 139 ((⟨"CapitalCaseModel", "sumNow", "(II)I"⟩, prog_14_method_113_code, 5, (some .int)))) (bn 141 (bl 140 ((⟨"CapitalCaseModel", "tell", "(IIZ)I"⟩, prog_14_method_106_code, 4, (some .int)))) (bl 141 ((⟨"CapitalCaseModel", "tells", "(IIII)I"⟩, prog_14_method_75_code, 5, (some .int))))))) (bn 144 (bn 143 (bl 142 ((⟨"CapitalCaseModel", "then", "(IIII)I"⟩, prog_14_method_103_code, 5, (some .int)))) (bl 143 ((⟨"CapitalCaseModel", "token", "(IIIJ)V"⟩, prog_14_method_11_code, 6, none)))) (bn 145 (bl 144 ((⟨"CapitalCaseModel", "twoDays", "(I)I"⟩, prog_14_method_92_code, 7, (some .int)))) (bn 146 (bl 145 ((⟨"CapitalCaseModel", "undo", "()Z"⟩, prog_14_method_83_code, 2, (some .boolean)))) (bl 146 ((⟨"CapitalCaseModel", "verse", "(II)I"⟩, prog_14_method_73_code, 3, (some .int)))))))) (bn 152 (bn 149 (bn 148 (bl 147 ((⟨"CapitalCaseModel", "versesSo", "(II)I"⟩, prog_14_method_114_code, 5, (some .int)))) (bl 148 ((⟨"CapitalCaseModel", "wants", "(II)I"⟩, prog_14_method_74_code, 3, (some .int))))) (bn 150 (bl 149 ((⟨"CapitalCaseModel", "whose", "(II)I"⟩, prog_14_method_109_code, 4, (some .int)))) (bn 151 (bl 150 ((⟨"CapitalCaseModel", "whoseBits", "(I)I"⟩, prog_14_method_108_code, 6, (some .int)))) (bl 151 ((⟨"CapitalCaseModel", "word", "(IIIIIII)J"⟩, prog_14_method_10_code, 7, (some .long))))))) (bn 154 (bn 153 (bl 152 ((⟨"CapitalCaseModel", "wornOut", "(II)I"⟩, prog_14_method_102_code, 4, (some .int)))) (bl 153 ((⟨"CapitalCaseModel", "worth", "(II)I"⟩, prog_14_method_89_code, 4, (some .int))))) (bn 155 (bl 154 ((⟨"CapitalCaseModel", "year", "(IIII)I"⟩, prog_14_method_105_code, 7, (some .int)))) (bn 156 (bl 155 ((⟨"java/lang/Integer", "bitCount", "(I)I"⟩, prog_16_method_49_code, 1, (some .int)))) (bl 156 ((⟨"java/util/Arrays", "fill", "([II)V"⟩, prog_22_method_103_code, 4, none))))))))))
theorem cal_0 : xCal PX 0 ⟨"CapitalCase$History", "<init>", "()V"⟩ prog_2_method_1_code 1 none 0 := ⟨rfl, wd_380, wd_117, by decide, by decide, by decide, by decide +kernel⟩
theorem cal_1 : xCal PX 1 ⟨"CapitalCase$History", "keep", "(LCapitalCase$Town;)V"⟩ prog_2_method_2_code 3 none 1 := ⟨rfl, wd_970, wd_117, by decide, by decide, by decide, by decide +kernel⟩
theorem cal_2 : xCal PX 2 ⟨"CapitalCase$History", "takeBack", "(LCapitalCase$Town;)Z"⟩ prog_2_method_3_code 4 (some .boolean) 1 := ⟨rfl, wd_1050, wd_117, by decide, by decide, by decide, by decide +kernel⟩
theorem cal_3 : xCal PX 3 ⟨"CapitalCase$Judge", "<init>", "(LCapitalCase$Script;)V"⟩ prog_3_method_1_code 2 none 1 := ⟨rfl, wd_420, wd_119, by decide, by decide, by decide, by decide +kernel⟩
theorem cal_4 : xCal PX 4 ⟨"CapitalCase$Parser", "<init>", "([B)V"⟩ prog_4_method_1_code 2 none 1 := ⟨rfl, wd_258, wd_114, by decide, by decide, by decide, by decide +kernel⟩
theorem cal_5 : xCal PX 5 ⟨"CapitalCase$Parser", "next", "()I"⟩ prog_4_method_3_code 1 (some .int) 0 := ⟨rfl, wd_759, wd_114, by decide, by decide, by decide, by decide +kernel⟩
theorem cal_6 : xCal PX 6 ⟨"CapitalCase$Parser", "parse", "(I)I"⟩ prog_4_method_2_code 3 (some .int) 1 := ⟨rfl, wd_621, wd_114, by decide, by decide, by decide, by decide +kernel⟩
theorem cal_7 : xCal PX 7 ⟨"CapitalCase$Planner", "<init>", "(LCapitalCase$Script;LCapitalCase$Judge;)V"⟩ prog_5_method_1_code 3 none 2 := ⟨rfl, wd_449, wd_121, by decide, by decide, by decide, by decide +kernel⟩
theorem cal_8 : xCal PX 8 ⟨"CapitalCase$Planner", "keepIfMore", "(II)V"⟩ prog_5_method_10_code 3 none 2 := ⟨rfl, wd_1074, wd_121, by decide, by decide, by decide, by decide +kernel⟩
theorem cal_9 : xCal PX 9 ⟨"CapitalCase$Planner", "prepare", "(LCapitalCase$Town;I)V"⟩ prog_5_method_2_code 5 none 2 := ⟨rfl, wd_946, wd_121, by decide, by decide, by decide, by decide +kernel⟩
theorem cal_10 : xCal PX 10 ⟨"CapitalCase$Planner", "search", "()V"⟩ prog_5_method_9_code 6 none 0 := ⟨rfl, wd_1069, wd_121, by decide, by decide, by decide, by decide +kernel⟩
theorem cal_11 : xCal PX 11 ⟨"CapitalCase$Planner", "seek", "(LCapitalCase$Town;)V"⟩ prog_5_method_7_code 2 none 1 := ⟨rfl, wd_1063, wd_121, by decide, by decide, by decide, by decide +kernel⟩
theorem cal_12 : xCal PX 12 ⟨"CapitalCase$Press", "<init>", "(LCapitalCase$Script;LCapitalCase$Judge;)V"⟩ prog_6_method_1_code 3 none 2 := ⟨rfl, wd_436, wd_120, by decide, by decide, by decide, by decide +kernel⟩
theorem cal_13 : xCal PX 13 ⟨"CapitalCase$Press", "lot", "(III)I"⟩ prog_6_method_8_code 4 (some .int) 3 := ⟨rfl, wd_1038, wd_120, by decide, by decide, by decide, by decide +kernel⟩
theorem cal_14 : xCal PX 14 ⟨"CapitalCase$Press", "mix", "(II)I"⟩ prog_6_method_9_code 3 (some .int) 2 := ⟨rfl, wd_1041, wd_120, by decide, by decide, by decide, by decide +kernel⟩
theorem cal_15 : xCal PX 15 ⟨"CapitalCase$Press", "owed", "(LCapitalCase$Town;)I"⟩ prog_6_method_3_code 4 (some .int) 1 := ⟨rfl, wd_1016, wd_120, by decide, by decide, by decide, by decide +kernel⟩
theorem cal_16 : xCal PX 16 ⟨"CapitalCase$Press", "passDays", "(LCapitalCase$Town;II)V"⟩ prog_6_method_2_code 5 none 3 := ⟨rfl, wd_1008, wd_120, by decide, by decide, by decide, by decide +kernel⟩
theorem cal_17 : xCal PX 17 ⟨"CapitalCase$Press", "steal", "(LCapitalCase$Town;I)V"⟩ prog_6_method_7_code 6 none 2 := ⟨rfl, wd_1031, wd_120, by decide, by decide, by decide, by decide +kernel⟩
theorem cal_18 : xCal PX 18 ⟨"CapitalCase$Press", "thievesCome", "(II)Z"⟩ prog_6_method_6_code 3 (some .boolean) 2 := ⟨rfl, wd_1035, wd_120, by decide, by decide, by decide, by decide +kernel⟩
theorem cal_19 : xCal PX 19 ⟨"CapitalCase$Press", "work", "(LCapitalCase$Town;)V"⟩ prog_6_method_4_code 4 none 1 := ⟨rfl, wd_1012, wd_120, by decide, by decide, by decide, by decide +kernel⟩
theorem cal_20 : xCal PX 20 ⟨"CapitalCase$Prints", "<init>", "()V"⟩ prog_7_method_1_code 1 none 0 := ⟨rfl, wd_399, wd_118, by decide, by decide, by decide, by decide +kernel⟩
theorem cal_21 : xCal PX 21 ⟨"CapitalCase$Prints", "left", "(LCapitalCase$Town;II)I"⟩ prog_7_method_3_code 8 (some .int) 3 := ⟨rfl, wd_1216, wd_118, by decide, by decide, by decide, by decide +kernel⟩
theorem cal_22 : xCal PX 22 ⟨"CapitalCase$Prints", "letterToAsk", "(LCapitalCase$Town;II)I"⟩ prog_7_method_4_code 9 (some .int) 3 := ⟨rfl, wd_1230, wd_118, by decide, by decide, by decide, by decide +kernel⟩
theorem cal_23 : xCal PX 23 ⟨"CapitalCase$Prints", "note", "(IIZ)I"⟩ prog_7_method_2_code 4 (some .int) 3 := ⟨rfl, wd_1204, wd_118, by decide, by decide, by decide, by decide +kernel⟩
theorem cal_24 : xCal PX 24 ⟨"CapitalCase$Script", "<init>", "()V"⟩ prog_8_method_1_code 1 none 0 := ⟨rfl, wd_145, wd_112, by decide, by decide, by decide, by decide +kernel⟩
theorem cal_25 : xCal PX 25 ⟨"CapitalCase$Script", "add", "(II)V"⟩ prog_8_method_4_code 3 none 2 := ⟨rfl, wd_161, wd_112, by decide, by decide, by decide, by decide +kernel⟩
theorem cal_26 : xCal PX 26 ⟨"CapitalCase$Script", "become", "(LCapitalCase$Script;)V"⟩ prog_8_method_6_code 2 none 1 := ⟨rfl, wd_828, wd_112, by decide, by decide, by decide, by decide +kernel⟩
theorem cal_27 : xCal PX 27 ⟨"CapitalCase$Script", "layDown", "(III)V"⟩ prog_8_method_3_code 4 none 3 := ⟨rfl, wd_157, wd_112, by decide, by decide, by decide, by decide +kernel⟩
theorem cal_28 : xCal PX 28 ⟨"CapitalCase$Script", "wipe", "()V"⟩ prog_8_method_2_code 1 none 0 := ⟨rfl, wd_150, wd_112, by decide, by decide, by decide, by decide +kernel⟩
theorem cal_29 : xCal PX 29 ⟨"CapitalCase$Tokens", "<init>", "()V"⟩ prog_9_method_1_code 1 none 0 := ⟨rfl, wd_266, wd_115, by decide, by decide, by decide, by decide +kernel⟩
theorem cal_30 : xCal PX 30 ⟨"CapitalCase$Tokens", "scan", "([BI)V"⟩ prog_9_method_2_code 5 none 2 := ⟨rfl, wd_626, wd_115, by decide, by decide, by decide, by decide +kernel⟩
theorem cal_31 : xCal PX 31 ⟨"CapitalCase$Town", "<init>", "()V"⟩ prog_10_method_1_code 1 none 0 := ⟨rfl, wd_318, wd_116, by decide, by decide, by decide, by decide +kernel⟩
theorem cal_32 : xCal PX 32 ⟨"CapitalCase$Town", "become", "(LCapitalCase$Town;)V"⟩ prog_10_method_3_code 2 none 1 := ⟨rfl, wd_975, wd_116, by decide, by decide, by decide, by decide +kernel⟩
theorem cal_33 : xCal PX 33 ⟨"CapitalCase$Town", "begin", "(LCapitalCase$Script;)V"⟩ prog_10_method_2_code 2 none 1 := ⟨rfl, wd_839, wd_116, by decide, by decide, by decide, by decide +kernel⟩
theorem cal_34 : xCal PX 34 ⟨"CapitalCase$Town", "free", "(I)I"⟩ prog_10_method_4_code 2 (some .int) 1 := ⟨rfl, wd_861, wd_116, by decide, by decide, by decide, by decide +kernel⟩
theorem cal_35 : xCal PX 35 ⟨"CapitalCase$Town", "open", "(I)I"⟩ prog_10_method_7_code 2 (some .int) 1 := ⟨rfl, wd_938, wd_116, by decide, by decide, by decide, by decide +kernel⟩
theorem cal_36 : xCal PX 36 ⟨"CapitalCase$Trade", "<init>", "(LCapitalCase$Script;)V"⟩ prog_11_method_1_code 2 none 1 := ⟨rfl, wd_539, wd_123, by decide, by decide, by decide, by decide +kernel⟩
theorem cal_37 : xCal PX 37 ⟨"CapitalCase$Trade", "seekBargains", "(LCapitalCase$Town;)V"⟩ prog_11_method_4_code 4 none 1 := ⟨rfl, wd_1146, wd_123, by decide, by decide, by decide, by decide +kernel⟩
theorem cal_38 : xCal PX 38 ⟨"CapitalCase$TwoDays", "<init>", "(LCapitalCase$Script;LCapitalCase$Judge;LCapitalCase$Press;LCapitalCase$Planner;)V"⟩ prog_12_method_1_code 5 none 4 := ⟨rfl, wd_499, wd_122, by decide, by decide, by decide, by decide +kernel⟩
theorem cal_39 : xCal PX 39 ⟨"CapitalCase$TwoDays", "giveUpAll", "(I)V"⟩ prog_12_method_5_code 3 none 1 := ⟨rfl, wd_1115, wd_122, by decide, by decide, by decide, by decide +kernel⟩
theorem cal_40 : xCal PX 40 ⟨"CapitalCase$TwoDays", "passFirst", "(LCapitalCase$Town;I)V"⟩ prog_12_method_6_code 4 none 2 := ⟨rfl, wd_1120, wd_122, by decide, by decide, by decide, by decide +kernel⟩
theorem cal_41 : xCal PX 41 ⟨"CapitalCase$TwoDays", "seek", "(LCapitalCase$Town;)V"⟩ prog_12_method_2_code 6 none 1 := ⟨rfl, wd_1098, wd_122, by decide, by decide, by decide, by decide +kernel⟩
theorem cal_42 : xCal PX 42 ⟨"CapitalCase$TwoDays", "takeAll", "(I)Z"⟩ prog_12_method_4_code 3 (some .boolean) 1 := ⟨rfl, wd_1110, wd_122, by decide, by decide, by decide, by decide +kernel⟩
theorem cal_43 : xCal PX 43 ⟨"CapitalCase$TwoDays", "total", "([II)I"⟩ prog_12_method_3_code 5 (some .int) 2 := ⟨rfl, wd_1106, wd_122, by decide, by decide, by decide, by decide +kernel⟩
theorem cal_44 : xCal PX 44 ⟨"CapitalCase", "<init>", "()V"⟩ prog_1_method_1_code 1 none 0 := ⟨rfl, wd_137, wd_111, by decide, by decide, by decide, by decide +kernel⟩
theorem cal_45 : xCal PX 45 ⟨"CapitalCase", "append", "(I)V"⟩ prog_1_method_3_code 3 none 1 := ⟨rfl, wd_609, wd_111, by decide, by decide, by decide, by decide +kernel⟩
theorem cal_46 : xCal PX 46 ⟨"CapitalCase", "ask", "(II)I"⟩ prog_1_method_41_code 3 (some .int) 2 := ⟨rfl, wd_1226, wd_111, by decide, by decide, by decide, by decide +kernel⟩
theorem cal_47 : xCal PX 47 ⟨"CapitalCase", "back", "(I)I"⟩ prog_1_method_4_code 2 (some .int) 1 := ⟨rfl, wd_613, wd_111, by decide, by decide, by decide, by decide +kernel⟩
theorem cal_48 : xCal PX 48 ⟨"CapitalCase", "bargains", "(I)I"⟩ prog_1_method_30_code 2 (some .int) 1 := ⟨rfl, wd_1142, wd_111, by decide, by decide, by decide, by decide +kernel⟩
theorem cal_49 : xCal PX 49 ⟨"CapitalCase", "beginAnew", "()V"⟩ prog_1_method_6_code 2 none 0 := ⟨rfl, wd_835, wd_111, by decide, by decide, by decide, by decide +kernel⟩
theorem cal_50 : xCal PX 50 ⟨"CapitalCase", "best", "(I)I"⟩ prog_1_method_25_code 2 (some .int) 1 := ⟨rfl, wd_1059, wd_111, by decide, by decide, by decide, by decide +kernel⟩
theorem cal_51 : xCal PX 51 ⟨"CapitalCase", "clash", "(I)I"⟩ prog_1_method_32_code 2 (some .int) 1 := ⟨rfl, wd_1172, wd_111, by decide, by decide, by decide, by decide +kernel⟩
theorem cal_52 : xCal PX 52 ⟨"CapitalCase", "clear", "(I)Z"⟩ prog_1_method_19_code 2 (some .boolean) 1 := ⟨rfl, wd_984, wd_111, by decide, by decide, by decide, by decide +kernel⟩
theorem cal_53 : xCal PX 53 ⟨"CapitalCase", "count", "(I)I"⟩ prog_1_method_44_code 2 (some .int) 1 := ⟨rfl, wd_1244, wd_111, by decide, by decide, by decide, by decide +kernel⟩
theorem cal_54 : xCal PX 54 ⟨"CapitalCase", "days", "(I)I"⟩ prog_1_method_22_code 2 (some .int) 1 := ⟨rfl, wd_1004, wd_111, by decide, by decide, by decide, by decide +kernel⟩
theorem cal_55 : xCal PX 55 ⟨"CapitalCase", "feed", "(IIIII)I"⟩ prog_1_method_2_code 6 (some .int) 5 := ⟨rfl, wd_605, wd_111, by decide, by decide, by decide, by decide +kernel⟩
theorem cal_56 : xCal PX 56 ⟨"CapitalCase", "forget", "()I"⟩ prog_1_method_39_code 2 (some .int) 0 := ⟨rfl, wd_1208, wd_111, by decide, by decide, by decide, by decide +kernel⟩
theorem cal_57 : xCal PX 57 ⟨"CapitalCase", "from", "(II)I"⟩ prog_1_method_24_code 3 (some .int) 2 := ⟨rfl, wd_1054, wd_111, by decide, by decide, by decide, by decide +kernel⟩
theorem cal_58 : xCal PX 58 ⟨"CapitalCase", "giveBack", "(III)Z"⟩ prog_1_method_21_code 5 (some .boolean) 3 := ⟨rfl, wd_1000, wd_111, by decide, by decide, by decide, by decide +kernel⟩
theorem cal_59 : xCal PX 59 ⟨"CapitalCase", "heldSlots", "()I"⟩ prog_1_method_46_code 3 (some .int) 0 := ⟨rfl, wd_1251, wd_111, by decide, by decide, by decide, by decide +kernel⟩
theorem cal_60 : xCal PX 60 ⟨"CapitalCase", "hold", "(I)Z"⟩ prog_1_method_42_code 2 (some .boolean) 1 := ⟨rfl, wd_1236, wd_111, by decide, by decide, by decide, by decide +kernel⟩
theorem cal_61 : xCal PX 61 ⟨"CapitalCase", "house", "(III)I"⟩ prog_1_method_12_code 5 (some .int) 3 := ⟨rfl, wd_849, wd_111, by decide, by decide, by decide, by decide +kernel⟩
theorem cal_62 : xCal PX 62 ⟨"CapitalCase", "isCell", "(II)Z"⟩ prog_1_method_9_code 3 (some .boolean) 2 := ⟨rfl, wd_853, wd_111, by decide, by decide, by decide, by decide +kernel⟩
theorem cal_63 : xCal PX 63 ⟨"CapitalCase", "isHouse", "(I)Z"⟩ prog_1_method_8_code 2 (some .boolean) 1 := ⟨rfl, wd_857, wd_111, by decide, by decide, by decide, by decide +kernel⟩
theorem cal_64 : xCal PX 64 ⟨"CapitalCase", "isVerse", "(I)Z"⟩ prog_1_method_10_code 2 (some .boolean) 1 := ⟨rfl, wd_897, wd_111, by decide, by decide, by decide, by decide +kernel⟩
theorem cal_65 : xCal PX 65 ⟨"CapitalCase", "late", "()I"⟩ prog_1_method_33_code 3 (some .int) 0 := ⟨rfl, wd_1176, wd_111, by decide, by decide, by decide, by decide +kernel⟩
theorem cal_66 : xCal PX 66 ⟨"CapitalCase", "lend", "(III)Z"⟩ prog_1_method_20_code 4 (some .boolean) 3 := ⟨rfl, wd_992, wd_111, by decide, by decide, by decide, by decide +kernel⟩
theorem cal_67 : xCal PX 67 ⟨"CapitalCase", "loans", "(II)I"⟩ prog_1_method_29_code 3 (some .int) 2 := ⟨rfl, wd_1129, wd_111, by decide, by decide, by decide, by decide +kernel⟩
theorem cal_68 : xCal PX 68 ⟨"CapitalCase", "paidIn", "(I)I"⟩ prog_1_method_36_code 2 (some .int) 1 := ⟨rfl, wd_1192, wd_111, by decide, by decide, by decide, by decide +kernel⟩
theorem cal_69 : xCal PX 69 ⟨"CapitalCase", "pillar", "(I)I"⟩ prog_1_method_27_code 5 (some .int) 1 := ⟨rfl, wd_1086, wd_111, by decide, by decide, by decide, by decide +kernel⟩
theorem cal_70 : xCal PX 70 ⟨"CapitalCase", "place", "()I"⟩ prog_1_method_7_code 1 (some .int) 0 := ⟨rfl, wd_845, wd_111, by decide, by decide, by decide, by decide +kernel⟩
theorem cal_71 : xCal PX 71 ⟨"CapitalCase", "read", "()I"⟩ prog_1_method_5_code 2 (some .int) 0 := ⟨rfl, wd_617, wd_111, by decide, by decide, by decide, by decide +kernel⟩
theorem cal_72 : xCal PX 72 ⟨"CapitalCase", "restore", "(I)Z"⟩ prog_1_method_43_code 2 (some .boolean) 1 := ⟨rfl, wd_1240, wd_111, by decide, by decide, by decide, by decide +kernel⟩
theorem cal_73 : xCal PX 73 ⟨"CapitalCase", "set", "(I)Z"⟩ prog_1_method_17_code 2 (some .boolean) 1 := ⟨rfl, wd_930, wd_111, by decide, by decide, by decide, by decide +kernel⟩
theorem cal_74 : xCal PX 74 ⟨"CapitalCase", "settable", "()I"⟩ prog_1_method_47_code 3 (some .int) 0 := ⟨rfl, wd_1256, wd_111, by decide, by decide, by decide, by decide +kernel⟩
theorem cal_75 : xCal PX 75 ⟨"CapitalCase", "strike", "(I)I"⟩ prog_1_method_31_code 4 (some .int) 1 := ⟨rfl, wd_1164, wd_111, by decide, by decide, by decide, by decide +kernel⟩
theorem cal_76 : xCal PX 76 ⟨"CapitalCase", "sum", "([I)I"⟩ prog_1_method_45_code 6 (some .int) 1 := ⟨rfl, wd_1247, wd_111, by decide, by decide, by decide, by decide +kernel⟩
theorem cal_77 : xCal PX 77 ⟨"CapitalCase", "tell", "(IIZ)I"⟩ prog_1_method_38_code 4 (some .int) 3 := ⟨rfl, wd_1200, wd_111, by decide, by decide, by decide, by decide +kernel⟩
theorem cal_78 : xCal PX 78 ⟨"CapitalCase", "tells", "(IIII)I"⟩ prog_1_method_16_code 5 (some .int) 4 := ⟨rfl, wd_917, wd_111, by decide, by decide, by decide, by decide +kernel⟩
theorem cal_79 : xCal PX 79 ⟨"CapitalCase", "then", "(IIII)I"⟩ prog_1_method_35_code 6 (some .int) 4 := ⟨rfl, wd_1188, wd_111, by decide, by decide, by decide, by decide +kernel⟩
theorem cal_80 : xCal PX 80 ⟨"CapitalCase", "twoDays", "(I)I"⟩ prog_1_method_28_code 2 (some .int) 1 := ⟨rfl, wd_1094, wd_111, by decide, by decide, by decide, by decide +kernel⟩
theorem cal_81 : xCal PX 81 ⟨"CapitalCase", "undo", "()Z"⟩ prog_1_method_23_code 1 (some .boolean) 0 := ⟨rfl, wd_1046, wd_111, by decide, by decide, by decide, by decide +kernel⟩
theorem cal_82 : xCal PX 82 ⟨"CapitalCase", "verse", "(II)I"⟩ prog_1_method_13_code 3 (some .int) 2 := ⟨rfl, wd_893, wd_111, by decide, by decide, by decide, by decide +kernel⟩
theorem cal_83 : xCal PX 83 ⟨"CapitalCase", "wants", "(II)I"⟩ prog_1_method_15_code 3 (some .int) 2 := ⟨rfl, wd_913, wd_111, by decide, by decide, by decide, by decide +kernel⟩
theorem cal_84 : xCal PX 84 ⟨"CapitalCase", "whose", "(II)I"⟩ prog_1_method_40_code 4 (some .int) 2 := ⟨rfl, wd_1212, wd_111, by decide, by decide, by decide, by decide +kernel⟩
theorem cal_85 : xCal PX 85 ⟨"CapitalCase", "wornOut", "(II)I"⟩ prog_1_method_34_code 3 (some .int) 2 := ⟨rfl, wd_1180, wd_111, by decide, by decide, by decide, by decide +kernel⟩
theorem cal_86 : xCal PX 86 ⟨"CapitalCase", "worth", "(II)I"⟩ prog_1_method_26_code 4 (some .int) 2 := ⟨rfl, wd_1081, wd_111, by decide, by decide, by decide, by decide +kernel⟩
theorem cal_87 : xCal PX 87 ⟨"CapitalCase", "year", "(IIII)I"⟩ prog_1_method_37_code 7 (some .int) 4 := ⟨rfl, wd_1196, wd_111, by decide, by decide, by decide, by decide +kernel⟩
theorem cal_88 : xCal PX 88 ⟨"CapitalCaseModel", "<init>", "()V"⟩ prog_14_method_2_code 1 none 0 := ⟨rfl, wd_1261, wd_124, by decide, by decide, by decide, by decide +kernel⟩
theorem cal_89 : xCal PX 89 ⟨"CapitalCaseModel", "appends", "(JI)J"⟩ prog_14_method_9_code 3 (some .long) 2 := ⟨rfl, wd_1272, wd_124, by decide, by decide, by decide, by decide +kernel⟩
theorem cal_90 : xCal PX 90 ⟨"CapitalCaseModel", "areThieves", "()Z"⟩ prog_14_method_51_code 1 (some .boolean) 0 := ⟨rfl, wd_1769, wd_124, by decide, by decide, by decide, by decide +kernel⟩
theorem cal_91 : xCal PX 91 ⟨"CapitalCaseModel", "areTwo", "(III)Z"⟩ prog_14_method_79_code 4 (some .boolean) 3 := ⟨rfl, wd_1742, wd_124, by decide, by decide, by decide, by decide +kernel⟩
theorem cal_92 : xCal PX 92 ⟨"CapitalCaseModel", "ask", "(II)I"⟩ prog_14_method_110_code 9 (some .int) 2 := ⟨rfl, wd_1896, wd_124, by decide, by decide, by decide, by decide +kernel⟩
theorem cal_93 : xCal PX 93 ⟨"CapitalCaseModel", "back", "(I)I"⟩ prog_14_method_5_code 2 (some .int) 1 := ⟨rfl, wd_1504, wd_124, by decide, by decide, by decide, by decide +kernel⟩
theorem cal_94 : xCal PX 94 ⟨"CapitalCaseModel", "bargains", "(I)I"⟩ prog_14_method_97_code 7 (some .int) 1 := ⟨rfl, wd_1837, wd_124, by decide, by decide, by decide, by decide +kernel⟩
theorem cal_95 : xCal PX 95 ⟨"CapitalCaseModel", "begins", "()V"⟩ prog_14_method_46_code 2 none 0 := ⟨rfl, wd_1277, wd_124, by decide, by decide, by decide, by decide +kernel⟩
theorem cal_96 : xCal PX 96 ⟨"CapitalCaseModel", "best", "(I)I"⟩ prog_14_method_88_code 2 (some .int) 1 := ⟨rfl, wd_1793, wd_124, by decide, by decide, by decide, by decide +kernel⟩
theorem cal_97 : xCal PX 97 ⟨"CapitalCaseModel", "bits", "(I)I"⟩ prog_14_method_42_code 3 (some .int) 1 := ⟨rfl, wd_1892, wd_124, by decide, by decide, by decide, by decide +kernel⟩
theorem cal_98 : xCal PX 98 ⟨"CapitalCaseModel", "byteAt", "(I)I"⟩ prog_14_method_6_code 2 (some .int) 1 := ⟨rfl, wd_1516, wd_124, by decide, by decide, by decide, by decide +kernel⟩
theorem cal_99 : xCal PX 99 ⟨"CapitalCaseModel", "clash", "(I)I"⟩ prog_14_method_99_code 6 (some .int) 1 := ⟨rfl, wd_1853, wd_124, by decide, by decide, by decide, by decide +kernel⟩
theorem cal_100 : xCal PX 100 ⟨"CapitalCaseModel", "clear", "(I)Z"⟩ prog_14_method_78_code 2 (some .boolean) 1 := ⟨rfl, wd_1734, wd_124, by decide, by decide, by decide, by decide +kernel⟩
theorem cal_101 : xCal PX 101 ⟨"CapitalCaseModel", "copies", "()V"⟩ prog_14_method_48_code 2 none 0 := ⟨rfl, wd_1638, wd_124, by decide, by decide, by decide, by decide +kernel⟩
theorem cal_102 : xCal PX 102 ⟨"CapitalCaseModel", "count", "(I)I"⟩ prog_14_method_115_code 5 (some .int) 1 := ⟨rfl, wd_1908, wd_124, by decide, by decide, by decide, by decide +kernel⟩
theorem cal_103 : xCal PX 103 ⟨"CapitalCaseModel", "cut", "()V"⟩ prog_14_method_12_code 8 none 0 := ⟨rfl, wd_1512, wd_124, by decide, by decide, by decide, by decide +kernel⟩
theorem cal_104 : xCal PX 104 ⟨"CapitalCaseModel", "dayGoes", "()V"⟩ prog_14_method_70_code 2 none 0 := ⟨rfl, wd_1761, wd_124, by decide, by decide, by decide, by decide +kernel⟩
theorem cal_105 : xCal PX 105 ⟨"CapitalCaseModel", "days", "(I)I"⟩ prog_14_method_82_code 2 (some .int) 1 := ⟨rfl, wd_1750, wd_124, by decide, by decide, by decide, by decide +kernel⟩
theorem cal_106 : xCal PX 106 ⟨"CapitalCaseModel", "feed", "(IIIII)I"⟩ prog_14_method_3_code 6 (some .int) 5 := ⟨rfl, wd_1496, wd_124, by decide, by decide, by decide, by decide +kernel⟩
theorem cal_107 : xCal PX 107 ⟨"CapitalCaseModel", "findsBest", "()V"⟩ prog_14_method_87_code 5 none 0 := ⟨rfl, wd_1797, wd_124, by decide, by decide, by decide, by decide +kernel⟩
theorem cal_108 : xCal PX 108 ⟨"CapitalCaseModel", "firstDay", "(I)I"⟩ prog_14_method_91_code 3 (some .int) 1 := ⟨rfl, wd_1825, wd_124, by decide, by decide, by decide, by decide +kernel⟩
theorem cal_109 : xCal PX 109 ⟨"CapitalCaseModel", "forget", "()I"⟩ prog_14_method_107_code 2 (some .int) 0 := ⟨rfl, wd_1881, wd_124, by decide, by decide, by decide, by decide +kernel⟩
theorem cal_110 : xCal PX 110 ⟨"CapitalCaseModel", "from", "(II)I"⟩ prog_14_method_84_code 3 (some .int) 2 := ⟨rfl, wd_1789, wd_124, by decide, by decide, by decide, by decide +kernel⟩
theorem cal_111 : xCal PX 111 ⟨"CapitalCaseModel", "giveBack", "(III)Z"⟩ prog_14_method_81_code 5 (some .boolean) 3 := ⟨rfl, wd_1746, wd_124, by decide, by decide, by decide, by decide +kernel⟩
theorem cal_112 : xCal PX 112 ⟨"CapitalCaseModel", "goes", "(I)V"⟩ prog_14_method_71_code 3 none 1 := ⟨rfl, wd_1757, wd_124, by decide, by decide, by decide, by decide +kernel⟩
theorem cal_113 : xCal PX 113 ⟨"CapitalCaseModel", "hold", "(I)Z"⟩ prog_14_method_111_code 3 (some .boolean) 1 := ⟨rfl, wd_1900, wd_124, by decide, by decide, by decide, by decide +kernel⟩
theorem cal_114 : xCal PX 114 ⟨"CapitalCaseModel", "house", "(III)I"⟩ prog_14_method_72_code 5 (some .int) 3 := ⟨rfl, wd_1624, wd_124, by decide, by decide, by decide, by decide +kernel⟩
theorem cal_115 : xCal PX 115 ⟨"CapitalCaseModel", "in", "(III)Z"⟩ prog_14_method_40_code 3 (some .boolean) 3 := ⟨rfl, wd_1631, wd_124, by decide, by decide, by decide, by decide +kernel⟩
theorem cal_116 : xCal PX 116 ⟨"CapitalCaseModel", "is", "(I)Z"⟩ prog_14_method_14_code 2 (some .boolean) 1 := ⟨rfl, wd_1534, wd_124, by decide, by decide, by decide, by decide +kernel⟩
theorem cal_117 : xCal PX 117 ⟨"CapitalCaseModel", "isHouse", "(I)Z"⟩ prog_14_method_43_code 2 (some .boolean) 1 := ⟨rfl, wd_1628, wd_124, by decide, by decide, by decide, by decide +kernel⟩
theorem cal_118 : xCal PX 118 ⟨"CapitalCaseModel", "isLong", "(I)Z"⟩ prog_14_method_101_code 1 (some .boolean) 1 := ⟨rfl, wd_1753, wd_124, by decide, by decide, by decide, by decide +kernel⟩
theorem cal_119 : xCal PX 119 ⟨"CapitalCaseModel", "isSort", "(I)Z"⟩ prog_14_method_44_code 1 (some .boolean) 1 := ⟨rfl, wd_1634, wd_124, by decide, by decide, by decide, by decide +kernel⟩
theorem cal_120 : xCal PX 120 ⟨"CapitalCaseModel", "isVerse", "(I)Z"⟩ prog_14_method_45_code 2 (some .boolean) 1 := ⟨rfl, wd_1681, wd_124, by decide, by decide, by decide, by decide +kernel⟩
theorem cal_121 : xCal PX 121 ⟨"CapitalCaseModel", "keepsAhead", "()V"⟩ prog_14_method_85_code 2 none 0 := ⟨rfl, wd_1805, wd_124, by decide, by decide, by decide, by decide +kernel⟩
theorem cal_122 : xCal PX 122 ⟨"CapitalCaseModel", "keepsRow", "()V"⟩ prog_14_method_47_code 2 none 0 := ⟨rfl, wd_1281, wd_124, by decide, by decide, by decide, by decide +kernel⟩
theorem cal_123 : xCal PX 123 ⟨"CapitalCaseModel", "late", "()I"⟩ prog_14_method_100_code 3 (some .int) 0 := ⟨rfl, wd_1857, wd_124, by decide, by decide, by decide, by decide +kernel⟩
theorem cal_124 : xCal PX 124 ⟨"CapitalCaseModel", "lend", "(III)Z"⟩ prog_14_method_80_code 4 (some .boolean) 3 := ⟨rfl, wd_1738, wd_124, by decide, by decide, by decide, by decide +kernel⟩
theorem cal_125 : xCal PX 125 ⟨"CapitalCaseModel", "loans", "(II)I"⟩ prog_14_method_94_code 8 (some .int) 2 := ⟨rfl, wd_1829, wd_124, by decide, by decide, by decide, by decide +kernel⟩
theorem cal_126 : xCal PX 126 ⟨"CapitalCaseModel", "lotOf", "(II)I"⟩ prog_14_method_50_code 3 (some .int) 2 := ⟨rfl, wd_1773, wd_124, by decide, by decide, by decide, by decide +kernel⟩
theorem cal_127 : xCal PX 127 ⟨"CapitalCaseModel", "mixed", "(II)I"⟩ prog_14_method_49_code 3 (some .int) 2 := ⟨rfl, wd_1776, wd_124, by decide, by decide, by decide, by decide +kernel⟩
theorem cal_128 : xCal PX 128 ⟨"CapitalCaseModel", "openBits", "()I"⟩ prog_14_method_67_code 3 (some .int) 0 := ⟨rfl, wd_1801, wd_124, by decide, by decide, by decide, by decide +kernel⟩
theorem cal_129 : xCal PX 129 ⟨"CapitalCaseModel", "paidIn", "(I)I"⟩ prog_14_method_104_code 2 (some .int) 1 := ⟨rfl, wd_1869, wd_124, by decide, by decide, by decide, by decide +kernel⟩
theorem cal_130 : xCal PX 130 ⟨"CapitalCaseModel", "pillar", "(I)I"⟩ prog_14_method_90_code 5 (some .int) 1 := ⟨rfl, wd_1817, wd_124, by decide, by decide, by decide, by decide +kernel⟩
theorem cal_131 : xCal PX 131 ⟨"CapitalCaseModel", "place", "()I"⟩ prog_14_method_21_code 1 (some .int) 0 := ⟨rfl, wd_1620, wd_124, by decide, by decide, by decide, by decide +kernel⟩
theorem cal_132 : xCal PX 132 ⟨"CapitalCaseModel", "plain", "(I)V"⟩ prog_14_method_19_code 3 none 1 := ⟨rfl, wd_1266, wd_124, by decide, by decide, by decide, by decide +kernel⟩
theorem cal_133 : xCal PX 133 ⟨"CapitalCaseModel", "put", "(I)V"⟩ prog_14_method_4_code 3 none 1 := ⟨rfl, wd_1500, wd_124, by decide, by decide, by decide, by decide +kernel⟩
theorem cal_134 : xCal PX 134 ⟨"CapitalCaseModel", "read", "()I"⟩ prog_14_method_20_code 2 (some .int) 0 := ⟨rfl, wd_1508, wd_124, by decide, by decide, by decide, by decide +kernel⟩
theorem cal_135 : xCal PX 135 ⟨"CapitalCaseModel", "records", "()V"⟩ prog_14_method_76_code 2 none 0 := ⟨rfl, wd_1730, wd_124, by decide, by decide, by decide, by decide +kernel⟩
theorem cal_136 : xCal PX 136 ⟨"CapitalCaseModel", "restore", "(I)Z"⟩ prog_14_method_112_code 3 (some .boolean) 1 := ⟨rfl, wd_1904, wd_124, by decide, by decide, by decide, by decide +kernel⟩
theorem cal_137 : xCal PX 137 ⟨"CapitalCaseModel", "set", "(I)Z"⟩ prog_14_method_77_code 2 (some .boolean) 1 := ⟨rfl, wd_1710, wd_124, by decide, by decide, by decide, by decide +kernel⟩
theorem cal_138 : xCal PX 138 ⟨"CapitalCaseModel", "strike", "(I)I"⟩ prog_14_method_98_code 5 (some .int) 1 := ⟨rfl, wd_1849, wd_124, by decide, by decide, by decide, by decide +kernel⟩
theorem cal_139 : xCal PX 139 ⟨"CapitalCaseModel", "sumNow", "(II)I"⟩ prog_14_method_113_code 5 (some .int) 2 := ⟨rfl, wd_1916, wd_124, by decide, by decide, by decide, by decide +kernel⟩
theorem cal_140 : xCal PX 140 ⟨"CapitalCaseModel", "tell", "(IIZ)I"⟩ prog_14_method_106_code 4 (some .int) 3 := ⟨rfl, wd_1877, wd_124, by decide, by decide, by decide, by decide +kernel⟩
theorem cal_141 : xCal PX 141 ⟨"CapitalCaseModel", "tells", "(IIII)I"⟩ prog_14_method_75_code 5 (some .int) 4 := ⟨rfl, wd_1697, wd_124, by decide, by decide, by decide, by decide +kernel⟩
theorem cal_142 : xCal PX 142 ⟨"CapitalCaseModel", "then", "(IIII)I"⟩ prog_14_method_103_code 5 (some .int) 4 := ⟨rfl, wd_1865, wd_124, by decide, by decide, by decide, by decide +kernel⟩
theorem cal_143 : xCal PX 143 ⟨"CapitalCaseModel", "token", "(IIIJ)V"⟩ prog_14_method_11_code 6 none 4 := ⟨rfl, wd_1520, wd_124, by decide, by decide, by decide, by decide +kernel⟩
theorem cal_144 : xCal PX 144 ⟨"CapitalCaseModel", "twoDays", "(I)I"⟩ prog_14_method_92_code 7 (some .int) 1 := ⟨rfl, wd_1821, wd_124, by decide, by decide, by decide, by decide +kernel⟩
theorem cal_145 : xCal PX 145 ⟨"CapitalCaseModel", "undo", "()Z"⟩ prog_14_method_83_code 2 (some .boolean) 0 := ⟨rfl, wd_1785, wd_124, by decide, by decide, by decide, by decide +kernel⟩
theorem cal_146 : xCal PX 146 ⟨"CapitalCaseModel", "verse", "(II)I"⟩ prog_14_method_73_code 3 (some .int) 2 := ⟨rfl, wd_1677, wd_124, by decide, by decide, by decide, by decide +kernel⟩
theorem cal_147 : xCal PX 147 ⟨"CapitalCaseModel", "versesSo", "(II)I"⟩ prog_14_method_114_code 5 (some .int) 2 := ⟨rfl, wd_1912, wd_124, by decide, by decide, by decide, by decide +kernel⟩
theorem cal_148 : xCal PX 148 ⟨"CapitalCaseModel", "wants", "(II)I"⟩ prog_14_method_74_code 3 (some .int) 2 := ⟨rfl, wd_1693, wd_124, by decide, by decide, by decide, by decide +kernel⟩
theorem cal_149 : xCal PX 149 ⟨"CapitalCaseModel", "whose", "(II)I"⟩ prog_14_method_109_code 4 (some .int) 2 := ⟨rfl, wd_1885, wd_124, by decide, by decide, by decide, by decide +kernel⟩
theorem cal_150 : xCal PX 150 ⟨"CapitalCaseModel", "whoseBits", "(I)I"⟩ prog_14_method_108_code 6 (some .int) 1 := ⟨rfl, wd_1889, wd_124, by decide, by decide, by decide, by decide +kernel⟩
theorem cal_151 : xCal PX 151 ⟨"CapitalCaseModel", "word", "(IIIIIII)J"⟩ prog_14_method_10_code 7 (some .long) 7 := ⟨rfl, wd_1269, wd_124, by decide, by decide, by decide, by decide +kernel⟩
theorem cal_152 : xCal PX 152 ⟨"CapitalCaseModel", "wornOut", "(II)I"⟩ prog_14_method_102_code 4 (some .int) 2 := ⟨rfl, wd_1861, wd_124, by decide, by decide, by decide, by decide +kernel⟩
theorem cal_153 : xCal PX 153 ⟨"CapitalCaseModel", "worth", "(II)I"⟩ prog_14_method_89_code 4 (some .int) 2 := ⟨rfl, wd_1813, wd_124, by decide, by decide, by decide, by decide +kernel⟩
theorem cal_154 : xCal PX 154 ⟨"CapitalCaseModel", "year", "(IIII)I"⟩ prog_14_method_105_code 7 (some .int) 4 := ⟨rfl, wd_1873, wd_124, by decide, by decide, by decide, by decide +kernel⟩
theorem cal_155 : xCal PX 155 ⟨"java/lang/Integer", "bitCount", "(I)I"⟩ prog_16_method_49_code 1 (some .int) 1 := ⟨rfl, wd_1219, wd_132, by decide, by decide, by decide, by decide +kernel⟩
theorem cal_156 : xCal PX 156 ⟨"java/util/Arrays", "fill", "([II)V"⟩ prog_22_method_103_code 4 none 2 := ⟨rfl, wd_153, wd_113, by decide, by decide, by decide, by decide +kernel⟩
