set_option maxRecDepth 100000 in
theorem zk_0 : Cond.code ⟨"CapitalCase$History", "keep", "(LCapitalCase$Town;)V"⟩ prog_2_method_2_code 3 none ∈ xTB ∧ Cond.initialized "CapitalCase$History" ∈ xTB ∧ 3 ≤ 45 ∧ ("CapitalCase$History" ≠ "java/lang/invoke/MethodHandle" ∧ "CapitalCase$History" ≠ "java/lang/invoke/VarHandle" ∧ (parseMethodDescriptor "(LCapitalCase$Town;)V").map (fun d => d.parameters.length) = some 1) := ⟨wd_970, wd_117, by decide, by decide, by decide, by decide +kernel⟩
set_option maxRecDepth 100000 in
theorem zk_1 : Cond.code ⟨"CapitalCase$History", "takeBack", "(LCapitalCase$Town;)Z"⟩ prog_2_method_3_code 4 (some .boolean) ∈ xTB ∧ Cond.initialized "CapitalCase$History" ∈ xTB ∧ 4 ≤ 45 ∧ ("CapitalCase$History" ≠ "java/lang/invoke/MethodHandle" ∧ "CapitalCase$History" ≠ "java/lang/invoke/VarHandle" ∧ (parseMethodDescriptor "(LCapitalCase$Town;)Z").map (fun d => d.parameters.length) = some 1) := ⟨wd_1050, wd_117, by decide, by decide, by decide, by decide +kernel⟩
set_option maxRecDepth 100000 in
theorem zk_2 : Cond.code ⟨"CapitalCase$Judge", "givesLeave", "(LCapitalCase$Town;III)Z"⟩ prog_3_method_2_code 5 (some .boolean) ∈ xTB ∧ Cond.initialized "CapitalCase$Judge" ∈ xTB ∧ 5 ≤ 45 ∧ ("CapitalCase$Judge" ≠ "java/lang/invoke/MethodHandle" ∧ "CapitalCase$Judge" ≠ "java/lang/invoke/VarHandle" ∧ (parseMethodDescriptor "(LCapitalCase$Town;III)Z").map (fun d => d.parameters.length) = some 4) := ⟨wd_922, wd_119, by decide, by decide, by decide, by decide +kernel⟩
set_option maxRecDepth 100000 in
theorem zk_3 : Cond.code ⟨"CapitalCase$Judge", "judge", "(I)I"⟩ prog_3_method_8_code 6 (some .int) ∈ xTB ∧ Cond.initialized "CapitalCase$Judge" ∈ xTB ∧ 6 ≤ 45 ∧ ("CapitalCase$Judge" ≠ "java/lang/invoke/MethodHandle" ∧ "CapitalCase$Judge" ≠ "java/lang/invoke/VarHandle" ∧ (parseMethodDescriptor "(I)I").map (fun d => d.parameters.length) = some 1) := ⟨wd_884, wd_119, by decide, by decide, by decide, by decide +kernel⟩
set_option maxRecDepth 100000 in
theorem zk_4 : Cond.code ⟨"CapitalCase$Judge", "lookAtHouse", "(LCapitalCase$Town;II)V"⟩ prog_3_method_7_code 5 none ∈ xTB ∧ Cond.initialized "CapitalCase$Judge" ∈ xTB ∧ 5 ≤ 45 ∧ ("CapitalCase$Judge" ≠ "java/lang/invoke/MethodHandle" ∧ "CapitalCase$Judge" ≠ "java/lang/invoke/VarHandle" ∧ (parseMethodDescriptor "(LCapitalCase$Town;II)V").map (fun d => d.parameters.length) = some 3) := ⟨wd_879, wd_119, by decide, by decide, by decide, by decide +kernel⟩
set_option maxRecDepth 100000 in
theorem zk_5 : Cond.code ⟨"CapitalCase$Judge", "lookAtVerse", "(I)V"⟩ prog_3_method_6_code 2 none ∈ xTB ∧ Cond.initialized "CapitalCase$Judge" ∈ xTB ∧ 2 ≤ 45 ∧ ("CapitalCase$Judge" ≠ "java/lang/invoke/MethodHandle" ∧ "CapitalCase$Judge" ≠ "java/lang/invoke/VarHandle" ∧ (parseMethodDescriptor "(I)V").map (fun d => d.parameters.length) = some 1) := ⟨wd_909, wd_119, by decide, by decide, by decide, by decide +kernel⟩
set_option maxRecDepth 100000 in
theorem zk_6 : Cond.code ⟨"CapitalCase$Judge", "pays", "(II)I"⟩ prog_3_method_5_code 3 (some .int) ∈ xTB ∧ Cond.initialized "CapitalCase$Judge" ∈ xTB ∧ 3 ≤ 45 ∧ ("CapitalCase$Judge" ≠ "java/lang/invoke/MethodHandle" ∧ "CapitalCase$Judge" ≠ "java/lang/invoke/VarHandle" ∧ (parseMethodDescriptor "(II)I").map (fun d => d.parameters.length) = some 2) := ⟨wd_905, wd_119, by decide, by decide, by decide, by decide +kernel⟩
set_option maxRecDepth 100000 in
theorem zk_7 : Cond.code ⟨"CapitalCase$Judge", "rank", "(LCapitalCase$Town;III)I"⟩ prog_3_method_3_code 5 (some .int) ∈ xTB ∧ Cond.initialized "CapitalCase$Judge" ∈ xTB ∧ 5 ≤ 45 ∧ ("CapitalCase$Judge" ≠ "java/lang/invoke/MethodHandle" ∧ "CapitalCase$Judge" ≠ "java/lang/invoke/VarHandle" ∧ (parseMethodDescriptor "(LCapitalCase$Town;III)I").map (fun d => d.parameters.length) = some 4) := ⟨wd_926, wd_119, by decide, by decide, by decide, by decide +kernel⟩
set_option maxRecDepth 100000 in
theorem zk_8 : Cond.code ⟨"CapitalCase$Judge", "wears", "(LCapitalCase$Town;II)I"⟩ prog_3_method_4_code 4 (some .int) ∈ xTB ∧ Cond.initialized "CapitalCase$Judge" ∈ xTB ∧ 4 ≤ 45 ∧ ("CapitalCase$Judge" ≠ "java/lang/invoke/MethodHandle" ∧ "CapitalCase$Judge" ≠ "java/lang/invoke/VarHandle" ∧ (parseMethodDescriptor "(LCapitalCase$Town;II)I").map (fun d => d.parameters.length) = some 3) := ⟨wd_874, wd_119, by decide, by decide, by decide, by decide +kernel⟩
set_option maxRecDepth 100000 in
theorem zk_9 : Cond.code ⟨"CapitalCase$Parser", "accept", "(I)Z"⟩ prog_4_method_5_code 2 (some .boolean) ∈ xTB ∧ Cond.initialized "CapitalCase$Parser" ∈ xTB ∧ 2 ≤ 45 ∧ ("CapitalCase$Parser" ≠ "java/lang/invoke/MethodHandle" ∧ "CapitalCase$Parser" ≠ "java/lang/invoke/VarHandle" ∧ (parseMethodDescriptor "(I)Z").map (fun d => d.parameters.length) = some 1) := ⟨wd_771, wd_114, by decide, by decide, by decide, by decide +kernel⟩
set_option maxRecDepth 100000 in
theorem zk_10 : Cond.code ⟨"CapitalCase$Parser", "fail", "(I)Z"⟩ prog_4_method_4_code 2 (some .boolean) ∈ xTB ∧ Cond.initialized "CapitalCase$Parser" ∈ xTB ∧ 2 ≤ 45 ∧ ("CapitalCase$Parser" ≠ "java/lang/invoke/MethodHandle" ∧ "CapitalCase$Parser" ≠ "java/lang/invoke/VarHandle" ∧ (parseMethodDescriptor "(I)Z").map (fun d => d.parameters.length) = some 1) := ⟨wd_767, wd_114, by decide, by decide, by decide, by decide +kernel⟩
set_option maxRecDepth 100000 in
theorem zk_11 : Cond.code ⟨"CapitalCase$Parser", "intOf", "(III)I"⟩ prog_4_method_14_code 6 (some .int) ∈ xTB ∧ Cond.initialized "CapitalCase$Parser" ∈ xTB ∧ 6 ≤ 45 ∧ ("CapitalCase$Parser" ≠ "java/lang/invoke/MethodHandle" ∧ "CapitalCase$Parser" ≠ "java/lang/invoke/VarHandle" ∧ (parseMethodDescriptor "(III)I").map (fun d => d.parameters.length) = some 3) := ⟨wd_799, wd_114, by decide, by decide, by decide, by decide +kernel⟩
set_option maxRecDepth 100000 in
theorem zk_12 : Cond.code ⟨"CapitalCase$Parser", "isSame", "(II)Z"⟩ prog_4_method_11_code 4 (some .boolean) ∈ xTB ∧ Cond.initialized "CapitalCase$Parser" ∈ xTB ∧ 4 ≤ 45 ∧ ("CapitalCase$Parser" ≠ "java/lang/invoke/MethodHandle" ∧ "CapitalCase$Parser" ≠ "java/lang/invoke/VarHandle" ∧ (parseMethodDescriptor "(II)Z").map (fun d => d.parameters.length) = some 2) := ⟨wd_779, wd_114, by decide, by decide, by decide, by decide +kernel⟩
set_option maxRecDepth 100000 in
theorem zk_13 : Cond.code ⟨"CapitalCase$Parser", "next", "()I"⟩ prog_4_method_3_code 1 (some .int) ∈ xTB ∧ Cond.initialized "CapitalCase$Parser" ∈ xTB ∧ 1 ≤ 45 ∧ ("CapitalCase$Parser" ≠ "java/lang/invoke/MethodHandle" ∧ "CapitalCase$Parser" ≠ "java/lang/invoke/VarHandle" ∧ (parseMethodDescriptor "()I").map (fun d => d.parameters.length) = some 0) := ⟨wd_759, wd_114, by decide, by decide, by decide, by decide +kernel⟩
set_option maxRecDepth 100000 in
theorem zk_14 : Cond.code ⟨"CapitalCase$Parser", "noteLater", "(ZII)V"⟩ prog_4_method_6_code 4 none ∈ xTB ∧ Cond.initialized "CapitalCase$Parser" ∈ xTB ∧ 4 ≤ 45 ∧ ("CapitalCase$Parser" ≠ "java/lang/invoke/MethodHandle" ∧ "CapitalCase$Parser" ≠ "java/lang/invoke/VarHandle" ∧ (parseMethodDescriptor "(ZII)V").map (fun d => d.parameters.length) = some 3) := ⟨wd_783, wd_114, by decide, by decide, by decide, by decide +kernel⟩
set_option maxRecDepth 100000 in
theorem zk_15 : Cond.code ⟨"CapitalCase$Parser", "noteName", "(I)V"⟩ prog_4_method_10_code 3 none ∈ xTB ∧ Cond.initialized "CapitalCase$Parser" ∈ xTB ∧ 3 ≤ 45 ∧ ("CapitalCase$Parser" ≠ "java/lang/invoke/MethodHandle" ∧ "CapitalCase$Parser" ≠ "java/lang/invoke/VarHandle" ∧ (parseMethodDescriptor "(I)V").map (fun d => d.parameters.length) = some 1) := ⟨wd_775, wd_114, by decide, by decide, by decide, by decide +kernel⟩
set_option maxRecDepth 100000 in
theorem zk_16 : Cond.code ⟨"CapitalCase$Parser", "parse", "(I)I"⟩ prog_4_method_2_code 3 (some .int) ∈ xTB ∧ Cond.initialized "CapitalCase$Parser" ∈ xTB ∧ 3 ≤ 45 ∧ ("CapitalCase$Parser" ≠ "java/lang/invoke/MethodHandle" ∧ "CapitalCase$Parser" ≠ "java/lang/invoke/VarHandle" ∧ (parseMethodDescriptor "(I)I").map (fun d => d.parameters.length) = some 1) := ⟨wd_621, wd_114, by decide, by decide, by decide, by decide +kernel⟩
set_option maxRecDepth 100000 in
theorem zk_17 : Cond.code ⟨"CapitalCase$Parser", "parseHouse", "()V"⟩ prog_4_method_7_code 4 none ∈ xTB ∧ Cond.initialized "CapitalCase$Parser" ∈ xTB ∧ 4 ≤ 45 ∧ ("CapitalCase$Parser" ≠ "java/lang/invoke/MethodHandle" ∧ "CapitalCase$Parser" ≠ "java/lang/invoke/VarHandle" ∧ (parseMethodDescriptor "()V").map (fun d => d.parameters.length) = some 0) := ⟨wd_763, wd_114, by decide, by decide, by decide, by decide +kernel⟩
set_option maxRecDepth 100000 in
theorem zk_18 : Cond.code ⟨"CapitalCase$Parser", "parseLaw", "(I)V"⟩ prog_4_method_15_code 5 none ∈ xTB ∧ Cond.initialized "CapitalCase$Parser" ∈ xTB ∧ 5 ≤ 45 ∧ ("CapitalCase$Parser" ≠ "java/lang/invoke/MethodHandle" ∧ "CapitalCase$Parser" ≠ "java/lang/invoke/VarHandle" ∧ (parseMethodDescriptor "(I)V").map (fun d => d.parameters.length) = some 1) := ⟨wd_803, wd_114, by decide, by decide, by decide, by decide +kernel⟩
set_option maxRecDepth 100000 in
theorem zk_19 : Cond.code ⟨"CapitalCase$Parser", "parseNumber", "(I)V"⟩ prog_4_method_9_code 3 none ∈ xTB ∧ Cond.initialized "CapitalCase$Parser" ∈ xTB ∧ 3 ≤ 45 ∧ ("CapitalCase$Parser" ≠ "java/lang/invoke/MethodHandle" ∧ "CapitalCase$Parser" ≠ "java/lang/invoke/VarHandle" ∧ (parseMethodDescriptor "(I)V").map (fun d => d.parameters.length) = some 1) := ⟨wd_824, wd_114, by decide, by decide, by decide, by decide +kernel⟩
set_option maxRecDepth 100000 in
theorem zk_20 : Cond.code ⟨"CapitalCase$Parser", "parseVerse", "()V"⟩ prog_4_method_8_code 5 none ∈ xTB ∧ Cond.initialized "CapitalCase$Parser" ∈ xTB ∧ 5 ≤ 45 ∧ ("CapitalCase$Parser" ≠ "java/lang/invoke/MethodHandle" ∧ "CapitalCase$Parser" ≠ "java/lang/invoke/VarHandle" ∧ (parseMethodDescriptor "()V").map (fun d => d.parameters.length) = some 0) := ⟨wd_795, wd_114, by decide, by decide, by decide, by decide +kernel⟩
set_option maxRecDepth 100000 in
theorem zk_21 : Cond.code ⟨"CapitalCase$Planner", "giveUp", "(II)V"⟩ prog_5_method_6_code 5 none ∈ xTB ∧ Cond.initialized "CapitalCase$Planner" ∈ xTB ∧ 5 ≤ 45 ∧ ("CapitalCase$Planner" ≠ "java/lang/invoke/MethodHandle" ∧ "CapitalCase$Planner" ≠ "java/lang/invoke/VarHandle" ∧ (parseMethodDescriptor "(II)V").map (fun d => d.parameters.length) = some 2) := ⟨wd_966, wd_121, by decide, by decide, by decide, by decide +kernel⟩
set_option maxRecDepth 100000 in
theorem zk_22 : Cond.code ⟨"CapitalCase$Planner", "keepIfMore", "(II)V"⟩ prog_5_method_10_code 3 none ∈ xTB ∧ Cond.initialized "CapitalCase$Planner" ∈ xTB ∧ 3 ≤ 45 ∧ ("CapitalCase$Planner" ≠ "java/lang/invoke/MethodHandle" ∧ "CapitalCase$Planner" ≠ "java/lang/invoke/VarHandle" ∧ (parseMethodDescriptor "(II)V").map (fun d => d.parameters.length) = some 2) := ⟨wd_1074, wd_121, by decide, by decide, by decide, by decide +kernel⟩
set_option maxRecDepth 100000 in
theorem zk_23 : Cond.code ⟨"CapitalCase$Planner", "lastOf", "(I)I"⟩ prog_5_method_11_code 2 (some .int) ∈ xTB ∧ Cond.initialized "CapitalCase$Planner" ∈ xTB ∧ 2 ≤ 45 ∧ ("CapitalCase$Planner" ≠ "java/lang/invoke/MethodHandle" ∧ "CapitalCase$Planner" ≠ "java/lang/invoke/VarHandle" ∧ (parseMethodDescriptor "(I)I").map (fun d => d.parameters.length) = some 1) := ⟨wd_1077, wd_121, by decide, by decide, by decide, by decide +kernel⟩
set_option maxRecDepth 100000 in
theorem zk_24 : Cond.code ⟨"CapitalCase$Planner", "orderGivers", "(LCapitalCase$Town;II)V"⟩ prog_5_method_3_code 9 none ∈ xTB ∧ Cond.initialized "CapitalCase$Planner" ∈ xTB ∧ 9 ≤ 45 ∧ ("CapitalCase$Planner" ≠ "java/lang/invoke/MethodHandle" ∧ "CapitalCase$Planner" ≠ "java/lang/invoke/VarHandle" ∧ (parseMethodDescriptor "(LCapitalCase$Town;II)V").map (fun d => d.parameters.length) = some 3) := ⟨wd_952, wd_121, by decide, by decide, by decide, by decide +kernel⟩
set_option maxRecDepth 100000 in
theorem zk_25 : Cond.code ⟨"CapitalCase$Planner", "pick", "(II)I"⟩ prog_5_method_5_code 7 (some .int) ∈ xTB ∧ Cond.initialized "CapitalCase$Planner" ∈ xTB ∧ 7 ≤ 45 ∧ ("CapitalCase$Planner" ≠ "java/lang/invoke/MethodHandle" ∧ "CapitalCase$Planner" ≠ "java/lang/invoke/VarHandle" ∧ (parseMethodDescriptor "(II)I").map (fun d => d.parameters.length) = some 2) := ⟨wd_962, wd_121, by decide, by decide, by decide, by decide +kernel⟩
set_option maxRecDepth 100000 in
theorem zk_26 : Cond.code ⟨"CapitalCase$Planner", "prepare", "(LCapitalCase$Town;I)V"⟩ prog_5_method_2_code 5 none ∈ xTB ∧ Cond.initialized "CapitalCase$Planner" ∈ xTB ∧ 5 ≤ 45 ∧ ("CapitalCase$Planner" ≠ "java/lang/invoke/MethodHandle" ∧ "CapitalCase$Planner" ≠ "java/lang/invoke/VarHandle" ∧ (parseMethodDescriptor "(LCapitalCase$Town;I)V").map (fun d => d.parameters.length) = some 2) := ⟨wd_946, wd_121, by decide, by decide, by decide, by decide +kernel⟩
set_option maxRecDepth 100000 in
theorem zk_27 : Cond.code ⟨"CapitalCase$Planner", "search", "()V"⟩ prog_5_method_9_code 6 none ∈ xTB ∧ Cond.initialized "CapitalCase$Planner" ∈ xTB ∧ 6 ≤ 45 ∧ ("CapitalCase$Planner" ≠ "java/lang/invoke/MethodHandle" ∧ "CapitalCase$Planner" ≠ "java/lang/invoke/VarHandle" ∧ (parseMethodDescriptor "()V").map (fun d => d.parameters.length) = some 0) := ⟨wd_1069, wd_121, by decide, by decide, by decide, by decide +kernel⟩
set_option maxRecDepth 100000 in
theorem zk_28 : Cond.code ⟨"CapitalCase$Planner", "seek", "(LCapitalCase$Town;)V"⟩ prog_5_method_7_code 2 none ∈ xTB ∧ Cond.initialized "CapitalCase$Planner" ∈ xTB ∧ 2 ≤ 45 ∧ ("CapitalCase$Planner" ≠ "java/lang/invoke/MethodHandle" ∧ "CapitalCase$Planner" ≠ "java/lang/invoke/VarHandle" ∧ (parseMethodDescriptor "(LCapitalCase$Town;)V").map (fun d => d.parameters.length) = some 1) := ⟨wd_1063, wd_121, by decide, by decide, by decide, by decide +kernel⟩
set_option maxRecDepth 100000 in
theorem zk_29 : Cond.code ⟨"CapitalCase$Planner", "seekWithout", "(LCapitalCase$Town;I)V"⟩ prog_5_method_8_code 4 none ∈ xTB ∧ Cond.initialized "CapitalCase$Planner" ∈ xTB ∧ 4 ≤ 45 ∧ ("CapitalCase$Planner" ≠ "java/lang/invoke/MethodHandle" ∧ "CapitalCase$Planner" ≠ "java/lang/invoke/VarHandle" ∧ (parseMethodDescriptor "(LCapitalCase$Town;I)V").map (fun d => d.parameters.length) = some 2) := ⟨wd_1090, wd_121, by decide, by decide, by decide, by decide +kernel⟩
set_option maxRecDepth 100000 in
theorem zk_30 : Cond.code ⟨"CapitalCase$Planner", "take", "(I)Z"⟩ prog_5_method_4_code 5 (some .boolean) ∈ xTB ∧ Cond.initialized "CapitalCase$Planner" ∈ xTB ∧ 5 ≤ 45 ∧ ("CapitalCase$Planner" ≠ "java/lang/invoke/MethodHandle" ∧ "CapitalCase$Planner" ≠ "java/lang/invoke/VarHandle" ∧ (parseMethodDescriptor "(I)Z").map (fun d => d.parameters.length) = some 1) := ⟨wd_958, wd_121, by decide, by decide, by decide, by decide +kernel⟩
set_option maxRecDepth 100000 in
theorem zk_31 : Cond.code ⟨"CapitalCase$Press", "daysTillWornOut", "(LCapitalCase$Town;II)I"⟩ prog_6_method_10_code 5 (some .int) ∈ xTB ∧ Cond.initialized "CapitalCase$Press" ∈ xTB ∧ 5 ≤ 45 ∧ ("CapitalCase$Press" ≠ "java/lang/invoke/MethodHandle" ∧ "CapitalCase$Press" ≠ "java/lang/invoke/VarHandle" ∧ (parseMethodDescriptor "(LCapitalCase$Town;II)I").map (fun d => d.parameters.length) = some 3) := ⟨wd_1184, wd_120, by decide, by decide, by decide, by decide +kernel⟩
set_option maxRecDepth 100000 in
theorem zk_32 : Cond.code ⟨"CapitalCase$Press", "lot", "(III)I"⟩ prog_6_method_8_code 4 (some .int) ∈ xTB ∧ Cond.initialized "CapitalCase$Press" ∈ xTB ∧ 4 ≤ 45 ∧ ("CapitalCase$Press" ≠ "java/lang/invoke/MethodHandle" ∧ "CapitalCase$Press" ≠ "java/lang/invoke/VarHandle" ∧ (parseMethodDescriptor "(III)I").map (fun d => d.parameters.length) = some 3) := ⟨wd_1038, wd_120, by decide, by decide, by decide, by decide +kernel⟩
set_option maxRecDepth 100000 in
theorem zk_33 : Cond.code ⟨"CapitalCase$Press", "mix", "(II)I"⟩ prog_6_method_9_code 3 (some .int) ∈ xTB ∧ Cond.initialized "CapitalCase$Press" ∈ xTB ∧ 3 ≤ 45 ∧ ("CapitalCase$Press" ≠ "java/lang/invoke/MethodHandle" ∧ "CapitalCase$Press" ≠ "java/lang/invoke/VarHandle" ∧ (parseMethodDescriptor "(II)I").map (fun d => d.parameters.length) = some 2) := ⟨wd_1041, wd_120, by decide, by decide, by decide, by decide +kernel⟩
set_option maxRecDepth 100000 in
theorem zk_34 : Cond.code ⟨"CapitalCase$Press", "owed", "(LCapitalCase$Town;)I"⟩ prog_6_method_3_code 4 (some .int) ∈ xTB ∧ Cond.initialized "CapitalCase$Press" ∈ xTB ∧ 4 ≤ 45 ∧ ("CapitalCase$Press" ≠ "java/lang/invoke/MethodHandle" ∧ "CapitalCase$Press" ≠ "java/lang/invoke/VarHandle" ∧ (parseMethodDescriptor "(LCapitalCase$Town;)I").map (fun d => d.parameters.length) = some 1) := ⟨wd_1016, wd_120, by decide, by decide, by decide, by decide +kernel⟩
set_option maxRecDepth 100000 in
theorem zk_35 : Cond.code ⟨"CapitalCase$Press", "passDays", "(LCapitalCase$Town;II)V"⟩ prog_6_method_2_code 5 none ∈ xTB ∧ Cond.initialized "CapitalCase$Press" ∈ xTB ∧ 5 ≤ 45 ∧ ("CapitalCase$Press" ≠ "java/lang/invoke/MethodHandle" ∧ "CapitalCase$Press" ≠ "java/lang/invoke/VarHandle" ∧ (parseMethodDescriptor "(LCapitalCase$Town;II)V").map (fun d => d.parameters.length) = some 3) := ⟨wd_1008, wd_120, by decide, by decide, by decide, by decide +kernel⟩
set_option maxRecDepth 100000 in
theorem zk_36 : Cond.code ⟨"CapitalCase$Press", "steal", "(LCapitalCase$Town;I)V"⟩ prog_6_method_7_code 6 none ∈ xTB ∧ Cond.initialized "CapitalCase$Press" ∈ xTB ∧ 6 ≤ 45 ∧ ("CapitalCase$Press" ≠ "java/lang/invoke/MethodHandle" ∧ "CapitalCase$Press" ≠ "java/lang/invoke/VarHandle" ∧ (parseMethodDescriptor "(LCapitalCase$Town;I)V").map (fun d => d.parameters.length) = some 2) := ⟨wd_1031, wd_120, by decide, by decide, by decide, by decide +kernel⟩
set_option maxRecDepth 100000 in
theorem zk_37 : Cond.code ⟨"CapitalCase$Press", "thievesCome", "(II)Z"⟩ prog_6_method_6_code 3 (some .boolean) ∈ xTB ∧ Cond.initialized "CapitalCase$Press" ∈ xTB ∧ 3 ≤ 45 ∧ ("CapitalCase$Press" ≠ "java/lang/invoke/MethodHandle" ∧ "CapitalCase$Press" ≠ "java/lang/invoke/VarHandle" ∧ (parseMethodDescriptor "(II)Z").map (fun d => d.parameters.length) = some 2) := ⟨wd_1035, wd_120, by decide, by decide, by decide, by decide +kernel⟩
set_option maxRecDepth 100000 in
theorem zk_38 : Cond.code ⟨"CapitalCase$Press", "wear", "(LCapitalCase$Town;II)Z"⟩ prog_6_method_5_code 6 (some .boolean) ∈ xTB ∧ Cond.initialized "CapitalCase$Press" ∈ xTB ∧ 6 ≤ 45 ∧ ("CapitalCase$Press" ≠ "java/lang/invoke/MethodHandle" ∧ "CapitalCase$Press" ≠ "java/lang/invoke/VarHandle" ∧ (parseMethodDescriptor "(LCapitalCase$Town;II)Z").map (fun d => d.parameters.length) = some 3) := ⟨wd_1021, wd_120, by decide, by decide, by decide, by decide +kernel⟩
set_option maxRecDepth 100000 in
theorem zk_39 : Cond.code ⟨"CapitalCase$Press", "work", "(LCapitalCase$Town;)V"⟩ prog_6_method_4_code 4 none ∈ xTB ∧ Cond.initialized "CapitalCase$Press" ∈ xTB ∧ 4 ≤ 45 ∧ ("CapitalCase$Press" ≠ "java/lang/invoke/MethodHandle" ∧ "CapitalCase$Press" ≠ "java/lang/invoke/VarHandle" ∧ (parseMethodDescriptor "(LCapitalCase$Town;)V").map (fun d => d.parameters.length) = some 1) := ⟨wd_1012, wd_120, by decide, by decide, by decide, by decide +kernel⟩
set_option maxRecDepth 100000 in
theorem zk_40 : Cond.code ⟨"CapitalCase$Prints", "left", "(LCapitalCase$Town;II)I"⟩ prog_7_method_3_code 8 (some .int) ∈ xTB ∧ Cond.initialized "CapitalCase$Prints" ∈ xTB ∧ 8 ≤ 45 ∧ ("CapitalCase$Prints" ≠ "java/lang/invoke/MethodHandle" ∧ "CapitalCase$Prints" ≠ "java/lang/invoke/VarHandle" ∧ (parseMethodDescriptor "(LCapitalCase$Town;II)I").map (fun d => d.parameters.length) = some 3) := ⟨wd_1216, wd_118, by decide, by decide, by decide, by decide +kernel⟩
set_option maxRecDepth 100000 in
theorem zk_41 : Cond.code ⟨"CapitalCase$Prints", "letterToAsk", "(LCapitalCase$Town;II)I"⟩ prog_7_method_4_code 9 (some .int) ∈ xTB ∧ Cond.initialized "CapitalCase$Prints" ∈ xTB ∧ 9 ≤ 45 ∧ ("CapitalCase$Prints" ≠ "java/lang/invoke/MethodHandle" ∧ "CapitalCase$Prints" ≠ "java/lang/invoke/VarHandle" ∧ (parseMethodDescriptor "(LCapitalCase$Town;II)I").map (fun d => d.parameters.length) = some 3) := ⟨wd_1230, wd_118, by decide, by decide, by decide, by decide +kernel⟩
set_option maxRecDepth 100000 in
theorem zk_42 : Cond.code ⟨"CapitalCase$Prints", "note", "(IIZ)I"⟩ prog_7_method_2_code 4 (some .int) ∈ xTB ∧ Cond.initialized "CapitalCase$Prints" ∈ xTB ∧ 4 ≤ 45 ∧ ("CapitalCase$Prints" ≠ "java/lang/invoke/MethodHandle" ∧ "CapitalCase$Prints" ≠ "java/lang/invoke/VarHandle" ∧ (parseMethodDescriptor "(IIZ)I").map (fun d => d.parameters.length) = some 3) := ⟨wd_1204, wd_118, by decide, by decide, by decide, by decide +kernel⟩
set_option maxRecDepth 100000 in
theorem zk_43 : Cond.code ⟨"CapitalCase$Script", "add", "(II)V"⟩ prog_8_method_4_code 3 none ∈ xTB ∧ Cond.initialized "CapitalCase$Script" ∈ xTB ∧ 3 ≤ 45 ∧ ("CapitalCase$Script" ≠ "java/lang/invoke/MethodHandle" ∧ "CapitalCase$Script" ≠ "java/lang/invoke/VarHandle" ∧ (parseMethodDescriptor "(II)V").map (fun d => d.parameters.length) = some 2) := ⟨wd_161, wd_112, by decide, by decide, by decide, by decide +kernel⟩
set_option maxRecDepth 100000 in
theorem zk_44 : Cond.code ⟨"CapitalCase$Script", "become", "(LCapitalCase$Script;)V"⟩ prog_8_method_6_code 2 none ∈ xTB ∧ Cond.initialized "CapitalCase$Script" ∈ xTB ∧ 2 ≤ 45 ∧ ("CapitalCase$Script" ≠ "java/lang/invoke/MethodHandle" ∧ "CapitalCase$Script" ≠ "java/lang/invoke/VarHandle" ∧ (parseMethodDescriptor "(LCapitalCase$Script;)V").map (fun d => d.parameters.length) = some 1) := ⟨wd_828, wd_112, by decide, by decide, by decide, by decide +kernel⟩
set_option maxRecDepth 100000 in
theorem zk_45 : Cond.code ⟨"CapitalCase$Script", "layDown", "(III)V"⟩ prog_8_method_3_code 4 none ∈ xTB ∧ Cond.initialized "CapitalCase$Script" ∈ xTB ∧ 4 ≤ 45 ∧ ("CapitalCase$Script" ≠ "java/lang/invoke/MethodHandle" ∧ "CapitalCase$Script" ≠ "java/lang/invoke/VarHandle" ∧ (parseMethodDescriptor "(III)V").map (fun d => d.parameters.length) = some 3) := ⟨wd_157, wd_112, by decide, by decide, by decide, by decide +kernel⟩
set_option maxRecDepth 100000 in
theorem zk_46 : Cond.code ⟨"CapitalCase$Script", "lettersOf", "(I)I"⟩ prog_8_method_7_code 4 (some .int) ∈ xTB ∧ Cond.initialized "CapitalCase$Script" ∈ xTB ∧ 4 ≤ 45 ∧ ("CapitalCase$Script" ≠ "java/lang/invoke/MethodHandle" ∧ "CapitalCase$Script" ≠ "java/lang/invoke/VarHandle" ∧ (parseMethodDescriptor "(I)I").map (fun d => d.parameters.length) = some 1) := ⟨wd_1168, wd_112, by decide, by decide, by decide, by decide +kernel⟩
set_option maxRecDepth 100000 in
theorem zk_47 : Cond.code ⟨"CapitalCase$Script", "wipe", "()V"⟩ prog_8_method_2_code 1 none ∈ xTB ∧ Cond.initialized "CapitalCase$Script" ∈ xTB ∧ 1 ≤ 45 ∧ ("CapitalCase$Script" ≠ "java/lang/invoke/MethodHandle" ∧ "CapitalCase$Script" ≠ "java/lang/invoke/VarHandle" ∧ (parseMethodDescriptor "()V").map (fun d => d.parameters.length) = some 0) := ⟨wd_150, wd_112, by decide, by decide, by decide, by decide +kernel⟩
set_option maxRecDepth 100000 in
theorem zk_208 : Cond.code ⟨"CapitalCase$Tokens", "isBlank", "(I)Z"⟩ prog_9_method_3_code 1 (some .boolean) ∈ xTB ∧ Cond.initialized "CapitalCase$Tokens" ∈ xTB ∧ 1 ≤ 45 ∧ ("CapitalCase$Tokens" ≠ "java/lang/invoke/MethodHandle" ∧ "CapitalCase$Tokens" ≠ "java/lang/invoke/VarHandle" ∧ (parseMethodDescriptor "(I)Z").map (fun d => d.parameters.length) = some 1) := ⟨wd_629, wd_115, by decide, by decide, by decide, by decide +kernel⟩
set_option maxRecDepth 100000 in
theorem zk_209 : Cond.code ⟨"CapitalCase$Tokens", "isDigit", "(I)Z"⟩ prog_9_method_5_code 1 (some .boolean) ∈ xTB ∧ Cond.initialized "CapitalCase$Tokens" ∈ xTB ∧ 1 ≤ 45 ∧ ("CapitalCase$Tokens" ≠ "java/lang/invoke/MethodHandle" ∧ "CapitalCase$Tokens" ≠ "java/lang/invoke/VarHandle" ∧ (parseMethodDescriptor "(I)Z").map (fun d => d.parameters.length) = some 1) := ⟨wd_638, wd_115, by decide, by decide, by decide, by decide +kernel⟩
set_option maxRecDepth 100000 in
theorem zk_210 : Cond.code ⟨"CapitalCase$Tokens", "isLower", "(I)Z"⟩ prog_9_method_4_code 1 (some .boolean) ∈ xTB ∧ Cond.initialized "CapitalCase$Tokens" ∈ xTB ∧ 1 ≤ 45 ∧ ("CapitalCase$Tokens" ≠ "java/lang/invoke/MethodHandle" ∧ "CapitalCase$Tokens" ≠ "java/lang/invoke/VarHandle" ∧ (parseMethodDescriptor "(I)Z").map (fun d => d.parameters.length) = some 1) := ⟨wd_635, wd_115, by decide, by decide, by decide, by decide +kernel⟩
set_option maxRecDepth 100000 in
theorem zk_48 : Cond.code ⟨"CapitalCase$Tokens", "scan", "([BI)V"⟩ prog_9_method_2_code 5 none ∈ xTB ∧ Cond.initialized "CapitalCase$Tokens" ∈ xTB ∧ 5 ≤ 45 ∧ ("CapitalCase$Tokens" ≠ "java/lang/invoke/MethodHandle" ∧ "CapitalCase$Tokens" ≠ "java/lang/invoke/VarHandle" ∧ (parseMethodDescriptor "([BI)V").map (fun d => d.parameters.length) = some 2) := ⟨wd_626, wd_115, by decide, by decide, by decide, by decide +kernel⟩
set_option maxRecDepth 100000 in
theorem zk_49 : Cond.code ⟨"CapitalCase$Town", "become", "(LCapitalCase$Town;)V"⟩ prog_10_method_3_code 2 none ∈ xTB ∧ Cond.initialized "CapitalCase$Town" ∈ xTB ∧ 2 ≤ 45 ∧ ("CapitalCase$Town" ≠ "java/lang/invoke/MethodHandle" ∧ "CapitalCase$Town" ≠ "java/lang/invoke/VarHandle" ∧ (parseMethodDescriptor "(LCapitalCase$Town;)V").map (fun d => d.parameters.length) = some 1) := ⟨wd_975, wd_116, by decide, by decide, by decide, by decide +kernel⟩
set_option maxRecDepth 100000 in
theorem zk_50 : Cond.code ⟨"CapitalCase$Town", "begin", "(LCapitalCase$Script;)V"⟩ prog_10_method_2_code 2 none ∈ xTB ∧ Cond.initialized "CapitalCase$Town" ∈ xTB ∧ 2 ≤ 45 ∧ ("CapitalCase$Town" ≠ "java/lang/invoke/MethodHandle" ∧ "CapitalCase$Town" ≠ "java/lang/invoke/VarHandle" ∧ (parseMethodDescriptor "(LCapitalCase$Script;)V").map (fun d => d.parameters.length) = some 1) := ⟨wd_839, wd_116, by decide, by decide, by decide, by decide +kernel⟩
set_option maxRecDepth 100000 in
theorem zk_51 : Cond.code ⟨"CapitalCase$Town", "free", "(I)I"⟩ prog_10_method_4_code 2 (some .int) ∈ xTB ∧ Cond.initialized "CapitalCase$Town" ∈ xTB ∧ 2 ≤ 45 ∧ ("CapitalCase$Town" ≠ "java/lang/invoke/MethodHandle" ∧ "CapitalCase$Town" ≠ "java/lang/invoke/VarHandle" ∧ (parseMethodDescriptor "(I)I").map (fun d => d.parameters.length) = some 1) := ⟨wd_861, wd_116, by decide, by decide, by decide, by decide +kernel⟩
set_option maxRecDepth 100000 in
theorem zk_52 : Cond.code ⟨"CapitalCase$Town", "lay", "(LCapitalCase$Script;I[I)V"⟩ prog_10_method_8_code 6 none ∈ xTB ∧ Cond.initialized "CapitalCase$Town" ∈ xTB ∧ 6 ≤ 45 ∧ ("CapitalCase$Town" ≠ "java/lang/invoke/MethodHandle" ∧ "CapitalCase$Town" ≠ "java/lang/invoke/VarHandle" ∧ (parseMethodDescriptor "(LCapitalCase$Script;I[I)V").map (fun d => d.parameters.length) = some 3) := ⟨wd_980, wd_116, by decide, by decide, by decide, by decide +kernel⟩
set_option maxRecDepth 100000 in
theorem zk_53 : Cond.code ⟨"CapitalCase$Town", "lentBy", "(II)I"⟩ prog_10_method_5_code 5 (some .int) ∈ xTB ∧ Cond.initialized "CapitalCase$Town" ∈ xTB ∧ 5 ≤ 45 ∧ ("CapitalCase$Town" ≠ "java/lang/invoke/MethodHandle" ∧ "CapitalCase$Town" ≠ "java/lang/invoke/VarHandle" ∧ (parseMethodDescriptor "(II)I").map (fun d => d.parameters.length) = some 2) := ⟨wd_866, wd_116, by decide, by decide, by decide, by decide +kernel⟩
set_option maxRecDepth 100000 in
theorem zk_54 : Cond.code ⟨"CapitalCase$Town", "lentTo", "(II)I"⟩ prog_10_method_6_code 5 (some .int) ∈ xTB ∧ Cond.initialized "CapitalCase$Town" ∈ xTB ∧ 5 ≤ 45 ∧ ("CapitalCase$Town" ≠ "java/lang/invoke/MethodHandle" ∧ "CapitalCase$Town" ≠ "java/lang/invoke/VarHandle" ∧ (parseMethodDescriptor "(II)I").map (fun d => d.parameters.length) = some 2) := ⟨wd_870, wd_116, by decide, by decide, by decide, by decide +kernel⟩
set_option maxRecDepth 100000 in
theorem zk_55 : Cond.code ⟨"CapitalCase$Town", "lift", "(LCapitalCase$Script;I)V"⟩ prog_10_method_9_code 5 none ∈ xTB ∧ Cond.initialized "CapitalCase$Town" ∈ xTB ∧ 5 ≤ 45 ∧ ("CapitalCase$Town" ≠ "java/lang/invoke/MethodHandle" ∧ "CapitalCase$Town" ≠ "java/lang/invoke/VarHandle" ∧ (parseMethodDescriptor "(LCapitalCase$Script;I)V").map (fun d => d.parameters.length) = some 2) := ⟨wd_988, wd_116, by decide, by decide, by decide, by decide +kernel⟩
set_option maxRecDepth 100000 in
theorem zk_56 : Cond.code ⟨"CapitalCase$Town", "lose", "(I)Z"⟩ prog_10_method_11_code 2 (some .boolean) ∈ xTB ∧ Cond.initialized "CapitalCase$Town" ∈ xTB ∧ 2 ≤ 45 ∧ ("CapitalCase$Town" ≠ "java/lang/invoke/MethodHandle" ∧ "CapitalCase$Town" ≠ "java/lang/invoke/VarHandle" ∧ (parseMethodDescriptor "(I)Z").map (fun d => d.parameters.length) = some 1) := ⟨wd_1027, wd_116, by decide, by decide, by decide, by decide +kernel⟩
set_option maxRecDepth 100000 in
theorem zk_57 : Cond.code ⟨"CapitalCase$Town", "move", "(III)V"⟩ prog_10_method_10_code 4 none ∈ xTB ∧ Cond.initialized "CapitalCase$Town" ∈ xTB ∧ 4 ≤ 45 ∧ ("CapitalCase$Town" ≠ "java/lang/invoke/MethodHandle" ∧ "CapitalCase$Town" ≠ "java/lang/invoke/VarHandle" ∧ (parseMethodDescriptor "(III)V").map (fun d => d.parameters.length) = some 3) := ⟨wd_996, wd_116, by decide, by decide, by decide, by decide +kernel⟩
set_option maxRecDepth 100000 in
theorem zk_58 : Cond.code ⟨"CapitalCase$Town", "open", "(I)I"⟩ prog_10_method_7_code 2 (some .int) ∈ xTB ∧ Cond.initialized "CapitalCase$Town" ∈ xTB ∧ 2 ≤ 45 ∧ ("CapitalCase$Town" ≠ "java/lang/invoke/MethodHandle" ∧ "CapitalCase$Town" ≠ "java/lang/invoke/VarHandle" ∧ (parseMethodDescriptor "(I)I").map (fun d => d.parameters.length) = some 1) := ⟨wd_938, wd_116, by decide, by decide, by decide, by decide +kernel⟩
set_option maxRecDepth 100000 in
theorem zk_59 : Cond.code ⟨"CapitalCase$Trade", "freeElsewhere", "(LCapitalCase$Town;II)I"⟩ prog_11_method_3_code 6 (some .int) ∈ xTB ∧ Cond.initialized "CapitalCase$Trade" ∈ xTB ∧ 6 ≤ 45 ∧ ("CapitalCase$Trade" ≠ "java/lang/invoke/MethodHandle" ∧ "CapitalCase$Trade" ≠ "java/lang/invoke/VarHandle" ∧ (parseMethodDescriptor "(LCapitalCase$Town;II)I").map (fun d => d.parameters.length) = some 3) := ⟨wd_1137, wd_123, by decide, by decide, by decide, by decide +kernel⟩
set_option maxRecDepth 100000 in
theorem zk_60 : Cond.code ⟨"CapitalCase$Trade", "gains", "(LCapitalCase$Town;III)Z"⟩ prog_11_method_6_code 5 (some .boolean) ∈ xTB ∧ Cond.initialized "CapitalCase$Trade" ∈ xTB ∧ 5 ≤ 45 ∧ ("CapitalCase$Trade" ≠ "java/lang/invoke/MethodHandle" ∧ "CapitalCase$Trade" ≠ "java/lang/invoke/VarHandle" ∧ (parseMethodDescriptor "(LCapitalCase$Town;III)Z").map (fun d => d.parameters.length) = some 4) := ⟨wd_1154, wd_123, by decide, by decide, by decide, by decide +kernel⟩
set_option maxRecDepth 100000 in
theorem zk_61 : Cond.code ⟨"CapitalCase$Trade", "loansFor", "(LCapitalCase$Town;II)I"⟩ prog_11_method_2_code 9 (some .int) ∈ xTB ∧ Cond.initialized "CapitalCase$Trade" ∈ xTB ∧ 9 ≤ 45 ∧ ("CapitalCase$Trade" ≠ "java/lang/invoke/MethodHandle" ∧ "CapitalCase$Trade" ≠ "java/lang/invoke/VarHandle" ∧ (parseMethodDescriptor "(LCapitalCase$Town;II)I").map (fun d => d.parameters.length) = some 3) := ⟨wd_1133, wd_123, by decide, by decide, by decide, by decide +kernel⟩
set_option maxRecDepth 100000 in
theorem zk_62 : Cond.code ⟨"CapitalCase$Trade", "seekBargains", "(LCapitalCase$Town;)V"⟩ prog_11_method_4_code 4 none ∈ xTB ∧ Cond.initialized "CapitalCase$Trade" ∈ xTB ∧ 4 ≤ 45 ∧ ("CapitalCase$Trade" ≠ "java/lang/invoke/MethodHandle" ∧ "CapitalCase$Trade" ≠ "java/lang/invoke/VarHandle" ∧ (parseMethodDescriptor "(LCapitalCase$Town;)V").map (fun d => d.parameters.length) = some 1) := ⟨wd_1146, wd_123, by decide, by decide, by decide, by decide +kernel⟩
set_option maxRecDepth 100000 in
theorem zk_63 : Cond.code ⟨"CapitalCase$Trade", "seekBetween", "(LCapitalCase$Town;II)V"⟩ prog_11_method_5_code 6 none ∈ xTB ∧ Cond.initialized "CapitalCase$Trade" ∈ xTB ∧ 6 ≤ 45 ∧ ("CapitalCase$Trade" ≠ "java/lang/invoke/MethodHandle" ∧ "CapitalCase$Trade" ≠ "java/lang/invoke/VarHandle" ∧ (parseMethodDescriptor "(LCapitalCase$Town;II)V").map (fun d => d.parameters.length) = some 3) := ⟨wd_1150, wd_123, by decide, by decide, by decide, by decide +kernel⟩
set_option maxRecDepth 100000 in
theorem zk_64 : Cond.code ⟨"CapitalCase$Trade", "versesAlone", "(LCapitalCase$Town;III)I"⟩ prog_11_method_7_code 12 (some .int) ∈ xTB ∧ Cond.initialized "CapitalCase$Trade" ∈ xTB ∧ 12 ≤ 45 ∧ ("CapitalCase$Trade" ≠ "java/lang/invoke/MethodHandle" ∧ "CapitalCase$Trade" ≠ "java/lang/invoke/VarHandle" ∧ (parseMethodDescriptor "(LCapitalCase$Town;III)I").map (fun d => d.parameters.length) = some 4) := ⟨wd_1158, wd_123, by decide, by decide, by decide, by decide +kernel⟩
set_option maxRecDepth 100000 in
theorem zk_65 : Cond.code ⟨"CapitalCase$TwoDays", "giveUpAll", "(I)V"⟩ prog_12_method_5_code 3 none ∈ xTB ∧ Cond.initialized "CapitalCase$TwoDays" ∈ xTB ∧ 3 ≤ 45 ∧ ("CapitalCase$TwoDays" ≠ "java/lang/invoke/MethodHandle" ∧ "CapitalCase$TwoDays" ≠ "java/lang/invoke/VarHandle" ∧ (parseMethodDescriptor "(I)V").map (fun d => d.parameters.length) = some 1) := ⟨wd_1115, wd_122, by decide, by decide, by decide, by decide +kernel⟩
set_option maxRecDepth 100000 in
theorem zk_66 : Cond.code ⟨"CapitalCase$TwoDays", "passFirst", "(LCapitalCase$Town;I)V"⟩ prog_12_method_6_code 4 none ∈ xTB ∧ Cond.initialized "CapitalCase$TwoDays" ∈ xTB ∧ 4 ≤ 45 ∧ ("CapitalCase$TwoDays" ≠ "java/lang/invoke/MethodHandle" ∧ "CapitalCase$TwoDays" ≠ "java/lang/invoke/VarHandle" ∧ (parseMethodDescriptor "(LCapitalCase$Town;I)V").map (fun d => d.parameters.length) = some 2) := ⟨wd_1120, wd_122, by decide, by decide, by decide, by decide +kernel⟩
set_option maxRecDepth 100000 in
theorem zk_67 : Cond.code ⟨"CapitalCase$TwoDays", "seek", "(LCapitalCase$Town;)V"⟩ prog_12_method_2_code 6 none ∈ xTB ∧ Cond.initialized "CapitalCase$TwoDays" ∈ xTB ∧ 6 ≤ 45 ∧ ("CapitalCase$TwoDays" ≠ "java/lang/invoke/MethodHandle" ∧ "CapitalCase$TwoDays" ≠ "java/lang/invoke/VarHandle" ∧ (parseMethodDescriptor "(LCapitalCase$Town;)V").map (fun d => d.parameters.length) = some 1) := ⟨wd_1098, wd_122, by decide, by decide, by decide, by decide +kernel⟩
set_option maxRecDepth 100000 in
theorem zk_68 : Cond.code ⟨"CapitalCase$TwoDays", "takeAll", "(I)Z"⟩ prog_12_method_4_code 3 (some .boolean) ∈ xTB ∧ Cond.initialized "CapitalCase$TwoDays" ∈ xTB ∧ 3 ≤ 45 ∧ ("CapitalCase$TwoDays" ≠ "java/lang/invoke/MethodHandle" ∧ "CapitalCase$TwoDays" ≠ "java/lang/invoke/VarHandle" ∧ (parseMethodDescriptor "(I)Z").map (fun d => d.parameters.length) = some 1) := ⟨wd_1110, wd_122, by decide, by decide, by decide, by decide +kernel⟩
set_option maxRecDepth 100000 in
theorem zk_69 : Cond.code ⟨"CapitalCase$TwoDays", "total", "([II)I"⟩ prog_12_method_3_code 5 (some .int) ∈ xTB ∧ Cond.initialized "CapitalCase$TwoDays" ∈ xTB ∧ 5 ≤ 45 ∧ ("CapitalCase$TwoDays" ≠ "java/lang/invoke/MethodHandle" ∧ "CapitalCase$TwoDays" ≠ "java/lang/invoke/VarHandle" ∧ (parseMethodDescriptor "([II)I").map (fun d => d.parameters.length) = some 2) := ⟨wd_1106, wd_122, by decide, by decide, by decide, by decide +kernel⟩
set_option maxRecDepth 100000 in
theorem zk_70 : Cond.code ⟨"CapitalCase", "append", "(I)V"⟩ prog_1_method_3_code 3 none ∈ xTB ∧ Cond.initialized "CapitalCase" ∈ xTB ∧ 3 ≤ 45 ∧ ("CapitalCase" ≠ "java/lang/invoke/MethodHandle" ∧ "CapitalCase" ≠ "java/lang/invoke/VarHandle" ∧ (parseMethodDescriptor "(I)V").map (fun d => d.parameters.length) = some 1) := ⟨wd_609, wd_111, by decide, by decide, by decide, by decide +kernel⟩
set_option maxRecDepth 100000 in
theorem zk_71 : Cond.code ⟨"CapitalCase", "ask", "(II)I"⟩ prog_1_method_41_code 3 (some .int) ∈ xTB ∧ Cond.initialized "CapitalCase" ∈ xTB ∧ 3 ≤ 45 ∧ ("CapitalCase" ≠ "java/lang/invoke/MethodHandle" ∧ "CapitalCase" ≠ "java/lang/invoke/VarHandle" ∧ (parseMethodDescriptor "(II)I").map (fun d => d.parameters.length) = some 2) := ⟨wd_1226, wd_111, by decide, by decide, by decide, by decide +kernel⟩
set_option maxRecDepth 100000 in
theorem zk_72 : Cond.code ⟨"CapitalCase", "back", "(I)I"⟩ prog_1_method_4_code 2 (some .int) ∈ xTB ∧ Cond.initialized "CapitalCase" ∈ xTB ∧ 2 ≤ 45 ∧ ("CapitalCase" ≠ "java/lang/invoke/MethodHandle" ∧ "CapitalCase" ≠ "java/lang/invoke/VarHandle" ∧ (parseMethodDescriptor "(I)I").map (fun d => d.parameters.length) = some 1) := ⟨wd_613, wd_111, by decide, by decide, by decide, by decide +kernel⟩
set_option maxRecDepth 100000 in
theorem zk_73 : Cond.code ⟨"CapitalCase", "bargains", "(I)I"⟩ prog_1_method_30_code 2 (some .int) ∈ xTB ∧ Cond.initialized "CapitalCase" ∈ xTB ∧ 2 ≤ 45 ∧ ("CapitalCase" ≠ "java/lang/invoke/MethodHandle" ∧ "CapitalCase" ≠ "java/lang/invoke/VarHandle" ∧ (parseMethodDescriptor "(I)I").map (fun d => d.parameters.length) = some 1) := ⟨wd_1142, wd_111, by decide, by decide, by decide, by decide +kernel⟩
set_option maxRecDepth 100000 in
theorem zk_74 : Cond.code ⟨"CapitalCase", "beginAnew", "()V"⟩ prog_1_method_6_code 2 none ∈ xTB ∧ Cond.initialized "CapitalCase" ∈ xTB ∧ 2 ≤ 45 ∧ ("CapitalCase" ≠ "java/lang/invoke/MethodHandle" ∧ "CapitalCase" ≠ "java/lang/invoke/VarHandle" ∧ (parseMethodDescriptor "()V").map (fun d => d.parameters.length) = some 0) := ⟨wd_835, wd_111, by decide, by decide, by decide, by decide +kernel⟩
set_option maxRecDepth 100000 in
theorem zk_75 : Cond.code ⟨"CapitalCase", "best", "(I)I"⟩ prog_1_method_25_code 2 (some .int) ∈ xTB ∧ Cond.initialized "CapitalCase" ∈ xTB ∧ 2 ≤ 45 ∧ ("CapitalCase" ≠ "java/lang/invoke/MethodHandle" ∧ "CapitalCase" ≠ "java/lang/invoke/VarHandle" ∧ (parseMethodDescriptor "(I)I").map (fun d => d.parameters.length) = some 1) := ⟨wd_1059, wd_111, by decide, by decide, by decide, by decide +kernel⟩
set_option maxRecDepth 100000 in
theorem zk_76 : Cond.code ⟨"CapitalCase", "clash", "(I)I"⟩ prog_1_method_32_code 2 (some .int) ∈ xTB ∧ Cond.initialized "CapitalCase" ∈ xTB ∧ 2 ≤ 45 ∧ ("CapitalCase" ≠ "java/lang/invoke/MethodHandle" ∧ "CapitalCase" ≠ "java/lang/invoke/VarHandle" ∧ (parseMethodDescriptor "(I)I").map (fun d => d.parameters.length) = some 1) := ⟨wd_1172, wd_111, by decide, by decide, by decide, by decide +kernel⟩
set_option maxRecDepth 100000 in
theorem zk_77 : Cond.code ⟨"CapitalCase", "clear", "(I)Z"⟩ prog_1_method_19_code 2 (some .boolean) ∈ xTB ∧ Cond.initialized "CapitalCase" ∈ xTB ∧ 2 ≤ 45 ∧ ("CapitalCase" ≠ "java/lang/invoke/MethodHandle" ∧ "CapitalCase" ≠ "java/lang/invoke/VarHandle" ∧ (parseMethodDescriptor "(I)Z").map (fun d => d.parameters.length) = some 1) := ⟨wd_984, wd_111, by decide, by decide, by decide, by decide +kernel⟩
set_option maxRecDepth 100000 in
theorem zk_78 : Cond.code ⟨"CapitalCase", "couldBeSet", "(I)Z"⟩ prog_1_method_18_code 2 (some .boolean) ∈ xTB ∧ Cond.initialized "CapitalCase" ∈ xTB ∧ 2 ≤ 45 ∧ ("CapitalCase" ≠ "java/lang/invoke/MethodHandle" ∧ "CapitalCase" ≠ "java/lang/invoke/VarHandle" ∧ (parseMethodDescriptor "(I)Z").map (fun d => d.parameters.length) = some 1) := ⟨wd_942, wd_111, by decide, by decide, by decide, by decide +kernel⟩
set_option maxRecDepth 100000 in
theorem zk_79 : Cond.code ⟨"CapitalCase", "count", "(I)I"⟩ prog_1_method_44_code 2 (some .int) ∈ xTB ∧ Cond.initialized "CapitalCase" ∈ xTB ∧ 2 ≤ 45 ∧ ("CapitalCase" ≠ "java/lang/invoke/MethodHandle" ∧ "CapitalCase" ≠ "java/lang/invoke/VarHandle" ∧ (parseMethodDescriptor "(I)I").map (fun d => d.parameters.length) = some 1) := ⟨wd_1244, wd_111, by decide, by decide, by decide, by decide +kernel⟩
set_option maxRecDepth 100000 in
theorem zk_80 : Cond.code ⟨"CapitalCase", "days", "(I)I"⟩ prog_1_method_22_code 2 (some .int) ∈ xTB ∧ Cond.initialized "CapitalCase" ∈ xTB ∧ 2 ≤ 45 ∧ ("CapitalCase" ≠ "java/lang/invoke/MethodHandle" ∧ "CapitalCase" ≠ "java/lang/invoke/VarHandle" ∧ (parseMethodDescriptor "(I)I").map (fun d => d.parameters.length) = some 1) := ⟨wd_1004, wd_111, by decide, by decide, by decide, by decide +kernel⟩
set_option maxRecDepth 100000 in
theorem zk_81 : Cond.code ⟨"CapitalCase", "feed", "(IIIII)I"⟩ prog_1_method_2_code 6 (some .int) ∈ xTB ∧ Cond.initialized "CapitalCase" ∈ xTB ∧ 6 ≤ 45 ∧ ("CapitalCase" ≠ "java/lang/invoke/MethodHandle" ∧ "CapitalCase" ≠ "java/lang/invoke/VarHandle" ∧ (parseMethodDescriptor "(IIIII)I").map (fun d => d.parameters.length) = some 5) := ⟨wd_605, wd_111, by decide, by decide, by decide, by decide +kernel⟩
set_option maxRecDepth 100000 in
theorem zk_82 : Cond.code ⟨"CapitalCase", "forget", "()I"⟩ prog_1_method_39_code 2 (some .int) ∈ xTB ∧ Cond.initialized "CapitalCase" ∈ xTB ∧ 2 ≤ 45 ∧ ("CapitalCase" ≠ "java/lang/invoke/MethodHandle" ∧ "CapitalCase" ≠ "java/lang/invoke/VarHandle" ∧ (parseMethodDescriptor "()I").map (fun d => d.parameters.length) = some 0) := ⟨wd_1208, wd_111, by decide, by decide, by decide, by decide +kernel⟩
set_option maxRecDepth 100000 in
theorem zk_83 : Cond.code ⟨"CapitalCase", "from", "(II)I"⟩ prog_1_method_24_code 3 (some .int) ∈ xTB ∧ Cond.initialized "CapitalCase" ∈ xTB ∧ 3 ≤ 45 ∧ ("CapitalCase" ≠ "java/lang/invoke/MethodHandle" ∧ "CapitalCase" ≠ "java/lang/invoke/VarHandle" ∧ (parseMethodDescriptor "(II)I").map (fun d => d.parameters.length) = some 2) := ⟨wd_1054, wd_111, by decide, by decide, by decide, by decide +kernel⟩
set_option maxRecDepth 100000 in
theorem zk_84 : Cond.code ⟨"CapitalCase", "giveBack", "(III)Z"⟩ prog_1_method_21_code 5 (some .boolean) ∈ xTB ∧ Cond.initialized "CapitalCase" ∈ xTB ∧ 5 ≤ 45 ∧ ("CapitalCase" ≠ "java/lang/invoke/MethodHandle" ∧ "CapitalCase" ≠ "java/lang/invoke/VarHandle" ∧ (parseMethodDescriptor "(III)Z").map (fun d => d.parameters.length) = some 3) := ⟨wd_1000, wd_111, by decide, by decide, by decide, by decide +kernel⟩
set_option maxRecDepth 100000 in
theorem zk_85 : Cond.code ⟨"CapitalCase", "heldSlots", "()I"⟩ prog_1_method_46_code 3 (some .int) ∈ xTB ∧ Cond.initialized "CapitalCase" ∈ xTB ∧ 3 ≤ 45 ∧ ("CapitalCase" ≠ "java/lang/invoke/MethodHandle" ∧ "CapitalCase" ≠ "java/lang/invoke/VarHandle" ∧ (parseMethodDescriptor "()I").map (fun d => d.parameters.length) = some 0) := ⟨wd_1251, wd_111, by decide, by decide, by decide, by decide +kernel⟩
set_option maxRecDepth 100000 in
theorem zk_86 : Cond.code ⟨"CapitalCase", "hold", "(I)Z"⟩ prog_1_method_42_code 2 (some .boolean) ∈ xTB ∧ Cond.initialized "CapitalCase" ∈ xTB ∧ 2 ≤ 45 ∧ ("CapitalCase" ≠ "java/lang/invoke/MethodHandle" ∧ "CapitalCase" ≠ "java/lang/invoke/VarHandle" ∧ (parseMethodDescriptor "(I)Z").map (fun d => d.parameters.length) = some 1) := ⟨wd_1236, wd_111, by decide, by decide, by decide, by decide +kernel⟩
set_option maxRecDepth 100000 in
theorem zk_87 : Cond.code ⟨"CapitalCase", "house", "(III)I"⟩ prog_1_method_12_code 5 (some .int) ∈ xTB ∧ Cond.initialized "CapitalCase" ∈ xTB ∧ 5 ≤ 45 ∧ ("CapitalCase" ≠ "java/lang/invoke/MethodHandle" ∧ "CapitalCase" ≠ "java/lang/invoke/VarHandle" ∧ (parseMethodDescriptor "(III)I").map (fun d => d.parameters.length) = some 3) := ⟨wd_849, wd_111, by decide, by decide, by decide, by decide +kernel⟩
set_option maxRecDepth 100000 in
theorem zk_88 : Cond.code ⟨"CapitalCase", "isCell", "(II)Z"⟩ prog_1_method_9_code 3 (some .boolean) ∈ xTB ∧ Cond.initialized "CapitalCase" ∈ xTB ∧ 3 ≤ 45 ∧ ("CapitalCase" ≠ "java/lang/invoke/MethodHandle" ∧ "CapitalCase" ≠ "java/lang/invoke/VarHandle" ∧ (parseMethodDescriptor "(II)Z").map (fun d => d.parameters.length) = some 2) := ⟨wd_853, wd_111, by decide, by decide, by decide, by decide +kernel⟩
set_option maxRecDepth 100000 in
theorem zk_89 : Cond.code ⟨"CapitalCase", "isHouse", "(I)Z"⟩ prog_1_method_8_code 2 (some .boolean) ∈ xTB ∧ Cond.initialized "CapitalCase" ∈ xTB ∧ 2 ≤ 45 ∧ ("CapitalCase" ≠ "java/lang/invoke/MethodHandle" ∧ "CapitalCase" ≠ "java/lang/invoke/VarHandle" ∧ (parseMethodDescriptor "(I)Z").map (fun d => d.parameters.length) = some 1) := ⟨wd_857, wd_111, by decide, by decide, by decide, by decide +kernel⟩
set_option maxRecDepth 100000 in
theorem zk_90 : Cond.code ⟨"CapitalCase", "isOpen", "(I)Z"⟩ prog_1_method_11_code 2 (some .boolean) ∈ xTB ∧ Cond.initialized "CapitalCase" ∈ xTB ∧ 2 ≤ 45 ∧ ("CapitalCase" ≠ "java/lang/invoke/MethodHandle" ∧ "CapitalCase" ≠ "java/lang/invoke/VarHandle" ∧ (parseMethodDescriptor "(I)Z").map (fun d => d.parameters.length) = some 1) := ⟨wd_934, wd_111, by decide, by decide, by decide, by decide +kernel⟩
set_option maxRecDepth 100000 in
theorem zk_91 : Cond.code ⟨"CapitalCase", "isVerse", "(I)Z"⟩ prog_1_method_10_code 2 (some .boolean) ∈ xTB ∧ Cond.initialized "CapitalCase" ∈ xTB ∧ 2 ≤ 45 ∧ ("CapitalCase" ≠ "java/lang/invoke/MethodHandle" ∧ "CapitalCase" ≠ "java/lang/invoke/VarHandle" ∧ (parseMethodDescriptor "(I)Z").map (fun d => d.parameters.length) = some 1) := ⟨wd_897, wd_111, by decide, by decide, by decide, by decide +kernel⟩
set_option maxRecDepth 100000 in
theorem zk_92 : Cond.code ⟨"CapitalCase", "late", "()I"⟩ prog_1_method_33_code 3 (some .int) ∈ xTB ∧ Cond.initialized "CapitalCase" ∈ xTB ∧ 3 ≤ 45 ∧ ("CapitalCase" ≠ "java/lang/invoke/MethodHandle" ∧ "CapitalCase" ≠ "java/lang/invoke/VarHandle" ∧ (parseMethodDescriptor "()I").map (fun d => d.parameters.length) = some 0) := ⟨wd_1176, wd_111, by decide, by decide, by decide, by decide +kernel⟩
set_option maxRecDepth 100000 in
theorem zk_93 : Cond.code ⟨"CapitalCase", "lend", "(III)Z"⟩ prog_1_method_20_code 4 (some .boolean) ∈ xTB ∧ Cond.initialized "CapitalCase" ∈ xTB ∧ 4 ≤ 45 ∧ ("CapitalCase" ≠ "java/lang/invoke/MethodHandle" ∧ "CapitalCase" ≠ "java/lang/invoke/VarHandle" ∧ (parseMethodDescriptor "(III)Z").map (fun d => d.parameters.length) = some 3) := ⟨wd_992, wd_111, by decide, by decide, by decide, by decide +kernel⟩
set_option maxRecDepth 100000 in
theorem zk_94 : Cond.code ⟨"CapitalCase", "loans", "(II)I"⟩ prog_1_method_29_code 3 (some .int) ∈ xTB ∧ Cond.initialized "CapitalCase" ∈ xTB ∧ 3 ≤ 45 ∧ ("CapitalCase" ≠ "java/lang/invoke/MethodHandle" ∧ "CapitalCase" ≠ "java/lang/invoke/VarHandle" ∧ (parseMethodDescriptor "(II)I").map (fun d => d.parameters.length) = some 2) := ⟨wd_1129, wd_111, by decide, by decide, by decide, by decide +kernel⟩
set_option maxRecDepth 100000 in
theorem zk_95 : Cond.code ⟨"CapitalCase", "paidIn", "(I)I"⟩ prog_1_method_36_code 2 (some .int) ∈ xTB ∧ Cond.initialized "CapitalCase" ∈ xTB ∧ 2 ≤ 45 ∧ ("CapitalCase" ≠ "java/lang/invoke/MethodHandle" ∧ "CapitalCase" ≠ "java/lang/invoke/VarHandle" ∧ (parseMethodDescriptor "(I)I").map (fun d => d.parameters.length) = some 1) := ⟨wd_1192, wd_111, by decide, by decide, by decide, by decide +kernel⟩
set_option maxRecDepth 100000 in
theorem zk_96 : Cond.code ⟨"CapitalCase", "pillar", "(I)I"⟩ prog_1_method_27_code 5 (some .int) ∈ xTB ∧ Cond.initialized "CapitalCase" ∈ xTB ∧ 5 ≤ 45 ∧ ("CapitalCase" ≠ "java/lang/invoke/MethodHandle" ∧ "CapitalCase" ≠ "java/lang/invoke/VarHandle" ∧ (parseMethodDescriptor "(I)I").map (fun d => d.parameters.length) = some 1) := ⟨wd_1086, wd_111, by decide, by decide, by decide, by decide +kernel⟩
set_option maxRecDepth 100000 in
theorem zk_97 : Cond.code ⟨"CapitalCase", "place", "()I"⟩ prog_1_method_7_code 1 (some .int) ∈ xTB ∧ Cond.initialized "CapitalCase" ∈ xTB ∧ 1 ≤ 45 ∧ ("CapitalCase" ≠ "java/lang/invoke/MethodHandle" ∧ "CapitalCase" ≠ "java/lang/invoke/VarHandle" ∧ (parseMethodDescriptor "()I").map (fun d => d.parameters.length) = some 0) := ⟨wd_845, wd_111, by decide, by decide, by decide, by decide +kernel⟩
set_option maxRecDepth 100000 in
theorem zk_98 : Cond.code ⟨"CapitalCase", "read", "()I"⟩ prog_1_method_5_code 2 (some .int) ∈ xTB ∧ Cond.initialized "CapitalCase" ∈ xTB ∧ 2 ≤ 45 ∧ ("CapitalCase" ≠ "java/lang/invoke/MethodHandle" ∧ "CapitalCase" ≠ "java/lang/invoke/VarHandle" ∧ (parseMethodDescriptor "()I").map (fun d => d.parameters.length) = some 0) := ⟨wd_617, wd_111, by decide, by decide, by decide, by decide +kernel⟩
set_option maxRecDepth 100000 in
theorem zk_99 : Cond.code ⟨"CapitalCase", "restore", "(I)Z"⟩ prog_1_method_43_code 2 (some .boolean) ∈ xTB ∧ Cond.initialized "CapitalCase" ∈ xTB ∧ 2 ≤ 45 ∧ ("CapitalCase" ≠ "java/lang/invoke/MethodHandle" ∧ "CapitalCase" ≠ "java/lang/invoke/VarHandle" ∧ (parseMethodDescriptor "(I)Z").map (fun d => d.parameters.length) = some 1) := ⟨wd_1240, wd_111, by decide, by decide, by decide, by decide +kernel⟩
set_option maxRecDepth 100000 in
theorem zk_100 : Cond.code ⟨"CapitalCase", "set", "(I)Z"⟩ prog_1_method_17_code 2 (some .boolean) ∈ xTB ∧ Cond.initialized "CapitalCase" ∈ xTB ∧ 2 ≤ 45 ∧ ("CapitalCase" ≠ "java/lang/invoke/MethodHandle" ∧ "CapitalCase" ≠ "java/lang/invoke/VarHandle" ∧ (parseMethodDescriptor "(I)Z").map (fun d => d.parameters.length) = some 1) := ⟨wd_930, wd_111, by decide, by decide, by decide, by decide +kernel⟩
set_option maxRecDepth 100000 in
theorem zk_101 : Cond.code ⟨"CapitalCase", "settable", "()I"⟩ prog_1_method_47_code 3 (some .int) ∈ xTB ∧ Cond.initialized "CapitalCase" ∈ xTB ∧ 3 ≤ 45 ∧ ("CapitalCase" ≠ "java/lang/invoke/MethodHandle" ∧ "CapitalCase" ≠ "java/lang/invoke/VarHandle" ∧ (parseMethodDescriptor "()I").map (fun d => d.parameters.length) = some 0) := ⟨wd_1256, wd_111, by decide, by decide, by decide, by decide +kernel⟩
set_option maxRecDepth 100000 in
theorem zk_102 : Cond.code ⟨"CapitalCase", "standOf", "(I)I"⟩ prog_1_method_14_code 4 (some .int) ∈ xTB ∧ Cond.initialized "CapitalCase" ∈ xTB ∧ 4 ≤ 45 ∧ ("CapitalCase" ≠ "java/lang/invoke/MethodHandle" ∧ "CapitalCase" ≠ "java/lang/invoke/VarHandle" ∧ (parseMethodDescriptor "(I)I").map (fun d => d.parameters.length) = some 1) := ⟨wd_901, wd_111, by decide, by decide, by decide, by decide +kernel⟩
set_option maxRecDepth 100000 in
theorem zk_103 : Cond.code ⟨"CapitalCase", "strike", "(I)I"⟩ prog_1_method_31_code 4 (some .int) ∈ xTB ∧ Cond.initialized "CapitalCase" ∈ xTB ∧ 4 ≤ 45 ∧ ("CapitalCase" ≠ "java/lang/invoke/MethodHandle" ∧ "CapitalCase" ≠ "java/lang/invoke/VarHandle" ∧ (parseMethodDescriptor "(I)I").map (fun d => d.parameters.length) = some 1) := ⟨wd_1164, wd_111, by decide, by decide, by decide, by decide +kernel⟩
set_option maxRecDepth 100000 in
theorem zk_104 : Cond.code ⟨"CapitalCase", "sum", "([I)I"⟩ prog_1_method_45_code 6 (some .int) ∈ xTB ∧ Cond.initialized "CapitalCase" ∈ xTB ∧ 6 ≤ 45 ∧ ("CapitalCase" ≠ "java/lang/invoke/MethodHandle" ∧ "CapitalCase" ≠ "java/lang/invoke/VarHandle" ∧ (parseMethodDescriptor "([I)I").map (fun d => d.parameters.length) = some 1) := ⟨wd_1247, wd_111, by decide, by decide, by decide, by decide +kernel⟩
set_option maxRecDepth 100000 in
theorem zk_105 : Cond.code ⟨"CapitalCase", "tell", "(IIZ)I"⟩ prog_1_method_38_code 4 (some .int) ∈ xTB ∧ Cond.initialized "CapitalCase" ∈ xTB ∧ 4 ≤ 45 ∧ ("CapitalCase" ≠ "java/lang/invoke/MethodHandle" ∧ "CapitalCase" ≠ "java/lang/invoke/VarHandle" ∧ (parseMethodDescriptor "(IIZ)I").map (fun d => d.parameters.length) = some 3) := ⟨wd_1200, wd_111, by decide, by decide, by decide, by decide +kernel⟩
set_option maxRecDepth 100000 in
theorem zk_106 : Cond.code ⟨"CapitalCase", "tells", "(IIII)I"⟩ prog_1_method_16_code 5 (some .int) ∈ xTB ∧ Cond.initialized "CapitalCase" ∈ xTB ∧ 5 ≤ 45 ∧ ("CapitalCase" ≠ "java/lang/invoke/MethodHandle" ∧ "CapitalCase" ≠ "java/lang/invoke/VarHandle" ∧ (parseMethodDescriptor "(IIII)I").map (fun d => d.parameters.length) = some 4) := ⟨wd_917, wd_111, by decide, by decide, by decide, by decide +kernel⟩
set_option maxRecDepth 100000 in
theorem zk_107 : Cond.code ⟨"CapitalCase", "then", "(IIII)I"⟩ prog_1_method_35_code 6 (some .int) ∈ xTB ∧ Cond.initialized "CapitalCase" ∈ xTB ∧ 6 ≤ 45 ∧ ("CapitalCase" ≠ "java/lang/invoke/MethodHandle" ∧ "CapitalCase" ≠ "java/lang/invoke/VarHandle" ∧ (parseMethodDescriptor "(IIII)I").map (fun d => d.parameters.length) = some 4) := ⟨wd_1188, wd_111, by decide, by decide, by decide, by decide +kernel⟩
set_option maxRecDepth 100000 in
theorem zk_108 : Cond.code ⟨"CapitalCase", "twoDays", "(I)I"⟩ prog_1_method_28_code 2 (some .int) ∈ xTB ∧ Cond.initialized "CapitalCase" ∈ xTB ∧ 2 ≤ 45 ∧ ("CapitalCase" ≠ "java/lang/invoke/MethodHandle" ∧ "CapitalCase" ≠ "java/lang/invoke/VarHandle" ∧ (parseMethodDescriptor "(I)I").map (fun d => d.parameters.length) = some 1) := ⟨wd_1094, wd_111, by decide, by decide, by decide, by decide +kernel⟩
set_option maxRecDepth 100000 in
theorem zk_109 : Cond.code ⟨"CapitalCase", "undo", "()Z"⟩ prog_1_method_23_code 1 (some .boolean) ∈ xTB ∧ Cond.initialized "CapitalCase" ∈ xTB ∧ 1 ≤ 45 ∧ ("CapitalCase" ≠ "java/lang/invoke/MethodHandle" ∧ "CapitalCase" ≠ "java/lang/invoke/VarHandle" ∧ (parseMethodDescriptor "()Z").map (fun d => d.parameters.length) = some 0) := ⟨wd_1046, wd_111, by decide, by decide, by decide, by decide +kernel⟩
set_option maxRecDepth 100000 in
theorem zk_110 : Cond.code ⟨"CapitalCase", "verse", "(II)I"⟩ prog_1_method_13_code 3 (some .int) ∈ xTB ∧ Cond.initialized "CapitalCase" ∈ xTB ∧ 3 ≤ 45 ∧ ("CapitalCase" ≠ "java/lang/invoke/MethodHandle" ∧ "CapitalCase" ≠ "java/lang/invoke/VarHandle" ∧ (parseMethodDescriptor "(II)I").map (fun d => d.parameters.length) = some 2) := ⟨wd_893, wd_111, by decide, by decide, by decide, by decide +kernel⟩
set_option maxRecDepth 100000 in
theorem zk_111 : Cond.code ⟨"CapitalCase", "wants", "(II)I"⟩ prog_1_method_15_code 3 (some .int) ∈ xTB ∧ Cond.initialized "CapitalCase" ∈ xTB ∧ 3 ≤ 45 ∧ ("CapitalCase" ≠ "java/lang/invoke/MethodHandle" ∧ "CapitalCase" ≠ "java/lang/invoke/VarHandle" ∧ (parseMethodDescriptor "(II)I").map (fun d => d.parameters.length) = some 2) := ⟨wd_913, wd_111, by decide, by decide, by decide, by decide +kernel⟩
set_option maxRecDepth 100000 in
theorem zk_112 : Cond.code ⟨"CapitalCase", "whose", "(II)I"⟩ prog_1_method_40_code 4 (some .int) ∈ xTB ∧ Cond.initialized "CapitalCase" ∈ xTB ∧ 4 ≤ 45 ∧ ("CapitalCase" ≠ "java/lang/invoke/MethodHandle" ∧ "CapitalCase" ≠ "java/lang/invoke/VarHandle" ∧ (parseMethodDescriptor "(II)I").map (fun d => d.parameters.length) = some 2) := ⟨wd_1212, wd_111, by decide, by decide, by decide, by decide +kernel⟩
set_option maxRecDepth 100000 in
theorem zk_113 : Cond.code ⟨"CapitalCase", "wornOut", "(II)I"⟩ prog_1_method_34_code 3 (some .int) ∈ xTB ∧ Cond.initialized "CapitalCase" ∈ xTB ∧ 3 ≤ 45 ∧ ("CapitalCase" ≠ "java/lang/invoke/MethodHandle" ∧ "CapitalCase" ≠ "java/lang/invoke/VarHandle" ∧ (parseMethodDescriptor "(II)I").map (fun d => d.parameters.length) = some 2) := ⟨wd_1180, wd_111, by decide, by decide, by decide, by decide +kernel⟩
set_option maxRecDepth 100000 in
theorem zk_114 : Cond.code ⟨"CapitalCase", "worth", "(II)I"⟩ prog_1_method_26_code 4 (some .int) ∈ xTB ∧ Cond.initialized "CapitalCase" ∈ xTB ∧ 4 ≤ 45 ∧ ("CapitalCase" ≠ "java/lang/invoke/MethodHandle" ∧ "CapitalCase" ≠ "java/lang/invoke/VarHandle" ∧ (parseMethodDescriptor "(II)I").map (fun d => d.parameters.length) = some 2) := ⟨wd_1081, wd_111, by decide, by decide, by decide, by decide +kernel⟩
set_option maxRecDepth 100000 in
theorem zk_115 : Cond.code ⟨"CapitalCase", "year", "(IIII)I"⟩ prog_1_method_37_code 7 (some .int) ∈ xTB ∧ Cond.initialized "CapitalCase" ∈ xTB ∧ 7 ≤ 45 ∧ ("CapitalCase" ≠ "java/lang/invoke/MethodHandle" ∧ "CapitalCase" ≠ "java/lang/invoke/VarHandle" ∧ (parseMethodDescriptor "(IIII)I").map (fun d => d.parameters.length) = some 4) := ⟨wd_1196, wd_111, by decide, by decide, by decide, by decide +kernel⟩
set_option maxRecDepth 100000 in
theorem zk_116 : Cond.code ⟨"CapitalCaseModel", "areThieves", "()Z"⟩ prog_14_method_51_code 1 (some .boolean) ∈ xTB ∧ Cond.initialized "CapitalCaseModel" ∈ xTB ∧ 1 ≤ 45 ∧ ("CapitalCaseModel" ≠ "java/lang/invoke/MethodHandle" ∧ "CapitalCaseModel" ≠ "java/lang/invoke/VarHandle" ∧ (parseMethodDescriptor "()Z").map (fun d => d.parameters.length) = some 0) := ⟨wd_1769, wd_124, by decide, by decide, by decide, by decide +kernel⟩
set_option maxRecDepth 100000 in
theorem zk_117 : Cond.code ⟨"CapitalCaseModel", "areTwo", "(III)Z"⟩ prog_14_method_79_code 4 (some .boolean) ∈ xTB ∧ Cond.initialized "CapitalCaseModel" ∈ xTB ∧ 4 ≤ 45 ∧ ("CapitalCaseModel" ≠ "java/lang/invoke/MethodHandle" ∧ "CapitalCaseModel" ≠ "java/lang/invoke/VarHandle" ∧ (parseMethodDescriptor "(III)Z").map (fun d => d.parameters.length) = some 3) := ⟨wd_1742, wd_124, by decide, by decide, by decide, by decide +kernel⟩
set_option maxRecDepth 100000 in
theorem zk_118 : Cond.code ⟨"CapitalCaseModel", "ask", "(II)I"⟩ prog_14_method_110_code 9 (some .int) ∈ xTB ∧ Cond.initialized "CapitalCaseModel" ∈ xTB ∧ 9 ≤ 45 ∧ ("CapitalCaseModel" ≠ "java/lang/invoke/MethodHandle" ∧ "CapitalCaseModel" ≠ "java/lang/invoke/VarHandle" ∧ (parseMethodDescriptor "(II)I").map (fun d => d.parameters.length) = some 2) := ⟨wd_1896, wd_124, by decide, by decide, by decide, by decide +kernel⟩
set_option maxRecDepth 100000 in
theorem zk_119 : Cond.code ⟨"CapitalCaseModel", "back", "(I)I"⟩ prog_14_method_5_code 2 (some .int) ∈ xTB ∧ Cond.initialized "CapitalCaseModel" ∈ xTB ∧ 2 ≤ 45 ∧ ("CapitalCaseModel" ≠ "java/lang/invoke/MethodHandle" ∧ "CapitalCaseModel" ≠ "java/lang/invoke/VarHandle" ∧ (parseMethodDescriptor "(I)I").map (fun d => d.parameters.length) = some 1) := ⟨wd_1504, wd_124, by decide, by decide, by decide, by decide +kernel⟩
set_option maxRecDepth 100000 in
theorem zk_120 : Cond.code ⟨"CapitalCaseModel", "bargains", "(I)I"⟩ prog_14_method_97_code 7 (some .int) ∈ xTB ∧ Cond.initialized "CapitalCaseModel" ∈ xTB ∧ 7 ≤ 45 ∧ ("CapitalCaseModel" ≠ "java/lang/invoke/MethodHandle" ∧ "CapitalCaseModel" ≠ "java/lang/invoke/VarHandle" ∧ (parseMethodDescriptor "(I)I").map (fun d => d.parameters.length) = some 1) := ⟨wd_1837, wd_124, by decide, by decide, by decide, by decide +kernel⟩
set_option maxRecDepth 100000 in
theorem zk_121 : Cond.code ⟨"CapitalCaseModel", "begins", "()V"⟩ prog_14_method_46_code 2 none ∈ xTB ∧ Cond.initialized "CapitalCaseModel" ∈ xTB ∧ 2 ≤ 45 ∧ ("CapitalCaseModel" ≠ "java/lang/invoke/MethodHandle" ∧ "CapitalCaseModel" ≠ "java/lang/invoke/VarHandle" ∧ (parseMethodDescriptor "()V").map (fun d => d.parameters.length) = some 0) := ⟨wd_1277, wd_124, by decide, by decide, by decide, by decide +kernel⟩
set_option maxRecDepth 100000 in
theorem zk_122 : Cond.code ⟨"CapitalCaseModel", "best", "(I)I"⟩ prog_14_method_88_code 2 (some .int) ∈ xTB ∧ Cond.initialized "CapitalCaseModel" ∈ xTB ∧ 2 ≤ 45 ∧ ("CapitalCaseModel" ≠ "java/lang/invoke/MethodHandle" ∧ "CapitalCaseModel" ≠ "java/lang/invoke/VarHandle" ∧ (parseMethodDescriptor "(I)I").map (fun d => d.parameters.length) = some 1) := ⟨wd_1793, wd_124, by decide, by decide, by decide, by decide +kernel⟩
set_option maxRecDepth 100000 in
theorem zk_123 : Cond.code ⟨"CapitalCaseModel", "bits", "(I)I"⟩ prog_14_method_42_code 3 (some .int) ∈ xTB ∧ Cond.initialized "CapitalCaseModel" ∈ xTB ∧ 3 ≤ 45 ∧ ("CapitalCaseModel" ≠ "java/lang/invoke/MethodHandle" ∧ "CapitalCaseModel" ≠ "java/lang/invoke/VarHandle" ∧ (parseMethodDescriptor "(I)I").map (fun d => d.parameters.length) = some 1) := ⟨wd_1892, wd_124, by decide, by decide, by decide, by decide +kernel⟩
set_option maxRecDepth 100000 in
theorem zk_124 : Cond.code ⟨"CapitalCaseModel", "bounded", "(II)I"⟩ prog_14_method_27_code 4 (some .int) ∈ xTB ∧ Cond.initialized "CapitalCaseModel" ∈ xTB ∧ 4 ≤ 45 ∧ ("CapitalCaseModel" ≠ "java/lang/invoke/MethodHandle" ∧ "CapitalCaseModel" ≠ "java/lang/invoke/VarHandle" ∧ (parseMethodDescriptor "(II)I").map (fun d => d.parameters.length) = some 2) := ⟨wd_1588, wd_124, by decide, by decide, by decide, by decide +kernel⟩
set_option maxRecDepth 100000 in
theorem zk_125 : Cond.code ⟨"CapitalCaseModel", "canSet", "(I)Z"⟩ prog_14_method_86_code 3 (some .boolean) ∈ xTB ∧ Cond.initialized "CapitalCaseModel" ∈ xTB ∧ 3 ≤ 45 ∧ ("CapitalCaseModel" ≠ "java/lang/invoke/MethodHandle" ∧ "CapitalCaseModel" ≠ "java/lang/invoke/VarHandle" ∧ (parseMethodDescriptor "(I)Z").map (fun d => d.parameters.length) = some 1) := ⟨wd_1809, wd_124, by decide, by decide, by decide, by decide +kernel⟩
set_option maxRecDepth 100000 in
theorem zk_126 : Cond.code ⟨"CapitalCaseModel", "clash", "(I)I"⟩ prog_14_method_99_code 6 (some .int) ∈ xTB ∧ Cond.initialized "CapitalCaseModel" ∈ xTB ∧ 6 ≤ 45 ∧ ("CapitalCaseModel" ≠ "java/lang/invoke/MethodHandle" ∧ "CapitalCaseModel" ≠ "java/lang/invoke/VarHandle" ∧ (parseMethodDescriptor "(I)I").map (fun d => d.parameters.length) = some 1) := ⟨wd_1853, wd_124, by decide, by decide, by decide, by decide +kernel⟩
set_option maxRecDepth 100000 in
theorem zk_127 : Cond.code ⟨"CapitalCaseModel", "clear", "(I)Z"⟩ prog_14_method_78_code 2 (some .boolean) ∈ xTB ∧ Cond.initialized "CapitalCaseModel" ∈ xTB ∧ 2 ≤ 45 ∧ ("CapitalCaseModel" ≠ "java/lang/invoke/MethodHandle" ∧ "CapitalCaseModel" ≠ "java/lang/invoke/VarHandle" ∧ (parseMethodDescriptor "(I)Z").map (fun d => d.parameters.length) = some 1) := ⟨wd_1734, wd_124, by decide, by decide, by decide, by decide +kernel⟩
set_option maxRecDepth 100000 in
theorem zk_128 : Cond.code ⟨"CapitalCaseModel", "clears", "(I)V"⟩ prog_14_method_64_code 3 none ∈ xTB ∧ Cond.initialized "CapitalCaseModel" ∈ xTB ∧ 3 ≤ 45 ∧ ("CapitalCaseModel" ≠ "java/lang/invoke/MethodHandle" ∧ "CapitalCaseModel" ≠ "java/lang/invoke/VarHandle" ∧ (parseMethodDescriptor "(I)V").map (fun d => d.parameters.length) = some 1) := ⟨wd_1726, wd_124, by decide, by decide, by decide, by decide +kernel⟩
set_option maxRecDepth 100000 in
theorem zk_129 : Cond.code ⟨"CapitalCaseModel", "copies", "()V"⟩ prog_14_method_48_code 2 none ∈ xTB ∧ Cond.initialized "CapitalCaseModel" ∈ xTB ∧ 2 ≤ 45 ∧ ("CapitalCaseModel" ≠ "java/lang/invoke/MethodHandle" ∧ "CapitalCaseModel" ≠ "java/lang/invoke/VarHandle" ∧ (parseMethodDescriptor "()V").map (fun d => d.parameters.length) = some 0) := ⟨wd_1638, wd_124, by decide, by decide, by decide, by decide +kernel⟩
set_option maxRecDepth 100000 in
theorem zk_130 : Cond.code ⟨"CapitalCaseModel", "count", "(I)I"⟩ prog_14_method_115_code 5 (some .int) ∈ xTB ∧ Cond.initialized "CapitalCaseModel" ∈ xTB ∧ 5 ≤ 45 ∧ ("CapitalCaseModel" ≠ "java/lang/invoke/MethodHandle" ∧ "CapitalCaseModel" ≠ "java/lang/invoke/VarHandle" ∧ (parseMethodDescriptor "(I)I").map (fun d => d.parameters.length) = some 1) := ⟨wd_1908, wd_124, by decide, by decide, by decide, by decide +kernel⟩
set_option maxRecDepth 100000 in
theorem zk_131 : Cond.code ⟨"CapitalCaseModel", "dayGoes", "()V"⟩ prog_14_method_70_code 2 none ∈ xTB ∧ Cond.initialized "CapitalCaseModel" ∈ xTB ∧ 2 ≤ 45 ∧ ("CapitalCaseModel" ≠ "java/lang/invoke/MethodHandle" ∧ "CapitalCaseModel" ≠ "java/lang/invoke/VarHandle" ∧ (parseMethodDescriptor "()V").map (fun d => d.parameters.length) = some 0) := ⟨wd_1761, wd_124, by decide, by decide, by decide, by decide +kernel⟩
set_option maxRecDepth 100000 in
theorem zk_132 : Cond.code ⟨"CapitalCaseModel", "days", "(I)I"⟩ prog_14_method_82_code 2 (some .int) ∈ xTB ∧ Cond.initialized "CapitalCaseModel" ∈ xTB ∧ 2 ≤ 45 ∧ ("CapitalCaseModel" ≠ "java/lang/invoke/MethodHandle" ∧ "CapitalCaseModel" ≠ "java/lang/invoke/VarHandle" ∧ (parseMethodDescriptor "(I)I").map (fun d => d.parameters.length) = some 1) := ⟨wd_1750, wd_124, by decide, by decide, by decide, by decide +kernel⟩
set_option maxRecDepth 100000 in
theorem zk_133 : Cond.code ⟨"CapitalCaseModel", "fail", "(I)V"⟩ prog_14_method_15_code 2 none ∈ xTB ∧ Cond.initialized "CapitalCaseModel" ∈ xTB ∧ 2 ≤ 45 ∧ ("CapitalCaseModel" ≠ "java/lang/invoke/MethodHandle" ∧ "CapitalCaseModel" ≠ "java/lang/invoke/VarHandle" ∧ (parseMethodDescriptor "(I)V").map (fun d => d.parameters.length) = some 1) := ⟨wd_1546, wd_124, by decide, by decide, by decide, by decide +kernel⟩
set_option maxRecDepth 100000 in
theorem zk_134 : Cond.code ⟨"CapitalCaseModel", "feed", "(IIIII)I"⟩ prog_14_method_3_code 6 (some .int) ∈ xTB ∧ Cond.initialized "CapitalCaseModel" ∈ xTB ∧ 6 ≤ 45 ∧ ("CapitalCaseModel" ≠ "java/lang/invoke/MethodHandle" ∧ "CapitalCaseModel" ≠ "java/lang/invoke/VarHandle" ∧ (parseMethodDescriptor "(IIIII)I").map (fun d => d.parameters.length) = some 5) := ⟨wd_1496, wd_124, by decide, by decide, by decide, by decide +kernel⟩
set_option maxRecDepth 100000 in
theorem zk_135 : Cond.code ⟨"CapitalCaseModel", "findsBest", "()V"⟩ prog_14_method_87_code 5 none ∈ xTB ∧ Cond.initialized "CapitalCaseModel" ∈ xTB ∧ 5 ≤ 45 ∧ ("CapitalCaseModel" ≠ "java/lang/invoke/MethodHandle" ∧ "CapitalCaseModel" ≠ "java/lang/invoke/VarHandle" ∧ (parseMethodDescriptor "()V").map (fun d => d.parameters.length) = some 0) := ⟨wd_1797, wd_124, by decide, by decide, by decide, by decide +kernel⟩
set_option maxRecDepth 100000 in
theorem zk_136 : Cond.code ⟨"CapitalCaseModel", "firstDay", "(I)I"⟩ prog_14_method_91_code 3 (some .int) ∈ xTB ∧ Cond.initialized "CapitalCaseModel" ∈ xTB ∧ 3 ≤ 45 ∧ ("CapitalCaseModel" ≠ "java/lang/invoke/MethodHandle" ∧ "CapitalCaseModel" ≠ "java/lang/invoke/VarHandle" ∧ (parseMethodDescriptor "(I)I").map (fun d => d.parameters.length) = some 1) := ⟨wd_1825, wd_124, by decide, by decide, by decide, by decide +kernel⟩
set_option maxRecDepth 100000 in
theorem zk_137 : Cond.code ⟨"CapitalCaseModel", "forget", "()I"⟩ prog_14_method_107_code 2 (some .int) ∈ xTB ∧ Cond.initialized "CapitalCaseModel" ∈ xTB ∧ 2 ≤ 45 ∧ ("CapitalCaseModel" ≠ "java/lang/invoke/MethodHandle" ∧ "CapitalCaseModel" ≠ "java/lang/invoke/VarHandle" ∧ (parseMethodDescriptor "()I").map (fun d => d.parameters.length) = some 0) := ⟨wd_1881, wd_124, by decide, by decide, by decide, by decide +kernel⟩
set_option maxRecDepth 100000 in
theorem zk_138 : Cond.code ⟨"CapitalCaseModel", "freeOf", "(II)I"⟩ prog_14_method_54_code 4 (some .int) ∈ xTB ∧ Cond.initialized "CapitalCaseModel" ∈ xTB ∧ 4 ≤ 45 ∧ ("CapitalCaseModel" ≠ "java/lang/invoke/MethodHandle" ∧ "CapitalCaseModel" ≠ "java/lang/invoke/VarHandle" ∧ (parseMethodDescriptor "(II)I").map (fun d => d.parameters.length) = some 2) := ⟨wd_1642, wd_124, by decide, by decide, by decide, by decide +kernel⟩
set_option maxRecDepth 100000 in
theorem zk_139 : Cond.code ⟨"CapitalCaseModel", "from", "(II)I"⟩ prog_14_method_84_code 3 (some .int) ∈ xTB ∧ Cond.initialized "CapitalCaseModel" ∈ xTB ∧ 3 ≤ 45 ∧ ("CapitalCaseModel" ≠ "java/lang/invoke/MethodHandle" ∧ "CapitalCaseModel" ≠ "java/lang/invoke/VarHandle" ∧ (parseMethodDescriptor "(II)I").map (fun d => d.parameters.length) = some 2) := ⟨wd_1789, wd_124, by decide, by decide, by decide, by decide +kernel⟩
set_option maxRecDepth 100000 in
theorem zk_140 : Cond.code ⟨"CapitalCaseModel", "giveBack", "(III)Z"⟩ prog_14_method_81_code 5 (some .boolean) ∈ xTB ∧ Cond.initialized "CapitalCaseModel" ∈ xTB ∧ 5 ≤ 45 ∧ ("CapitalCaseModel" ≠ "java/lang/invoke/MethodHandle" ∧ "CapitalCaseModel" ≠ "java/lang/invoke/VarHandle" ∧ (parseMethodDescriptor "(III)Z").map (fun d => d.parameters.length) = some 3) := ⟨wd_1746, wd_124, by decide, by decide, by decide, by decide +kernel⟩
set_option maxRecDepth 100000 in
theorem zk_141 : Cond.code ⟨"CapitalCaseModel", "giverOf", "(II)I"⟩ prog_14_method_63_code 7 (some .int) ∈ xTB ∧ Cond.initialized "CapitalCaseModel" ∈ xTB ∧ 7 ≤ 45 ∧ ("CapitalCaseModel" ≠ "java/lang/invoke/MethodHandle" ∧ "CapitalCaseModel" ≠ "java/lang/invoke/VarHandle" ∧ (parseMethodDescriptor "(II)I").map (fun d => d.parameters.length) = some 2) := ⟨wd_1722, wd_124, by decide, by decide, by decide, by decide +kernel⟩
set_option maxRecDepth 100000 in
theorem zk_142 : Cond.code ⟨"CapitalCaseModel", "givesLeave", "(III)Z"⟩ prog_14_method_59_code 4 (some .boolean) ∈ xTB ∧ Cond.initialized "CapitalCaseModel" ∈ xTB ∧ 4 ≤ 45 ∧ ("CapitalCaseModel" ≠ "java/lang/invoke/MethodHandle" ∧ "CapitalCaseModel" ≠ "java/lang/invoke/VarHandle" ∧ (parseMethodDescriptor "(III)Z").map (fun d => d.parameters.length) = some 3) := ⟨wd_1706, wd_124, by decide, by decide, by decide, by decide +kernel⟩
set_option maxRecDepth 100000 in
theorem zk_143 : Cond.code ⟨"CapitalCaseModel", "goes", "(I)V"⟩ prog_14_method_71_code 3 none ∈ xTB ∧ Cond.initialized "CapitalCaseModel" ∈ xTB ∧ 3 ≤ 45 ∧ ("CapitalCaseModel" ≠ "java/lang/invoke/MethodHandle" ∧ "CapitalCaseModel" ≠ "java/lang/invoke/VarHandle" ∧ (parseMethodDescriptor "(I)V").map (fun d => d.parameters.length) = some 1) := ⟨wd_1757, wd_124, by decide, by decide, by decide, by decide +kernel⟩
set_option maxRecDepth 100000 in
theorem zk_144 : Cond.code ⟨"CapitalCaseModel", "goesOn", "()V"⟩ prog_14_method_17_code 1 none ∈ xTB ∧ Cond.initialized "CapitalCaseModel" ∈ xTB ∧ 1 ≤ 45 ∧ ("CapitalCaseModel" ≠ "java/lang/invoke/MethodHandle" ∧ "CapitalCaseModel" ≠ "java/lang/invoke/VarHandle" ∧ (parseMethodDescriptor "()V").map (fun d => d.parameters.length) = some 0) := ⟨wd_1550, wd_124, by decide, by decide, by decide, by decide +kernel⟩
set_option maxRecDepth 100000 in
theorem zk_145 : Cond.code ⟨"CapitalCaseModel", "held", "(III)I"⟩ prog_14_method_41_code 3 (some .int) ∈ xTB ∧ Cond.initialized "CapitalCaseModel" ∈ xTB ∧ 3 ≤ 45 ∧ ("CapitalCaseModel" ≠ "java/lang/invoke/MethodHandle" ∧ "CapitalCaseModel" ≠ "java/lang/invoke/VarHandle" ∧ (parseMethodDescriptor "(III)I").map (fun d => d.parameters.length) = some 3) := ⟨wd_1673, wd_124, by decide, by decide, by decide, by decide +kernel⟩
set_option maxRecDepth 100000 in
theorem zk_146 : Cond.code ⟨"CapitalCaseModel", "hold", "(I)Z"⟩ prog_14_method_111_code 3 (some .boolean) ∈ xTB ∧ Cond.initialized "CapitalCaseModel" ∈ xTB ∧ 3 ≤ 45 ∧ ("CapitalCaseModel" ≠ "java/lang/invoke/MethodHandle" ∧ "CapitalCaseModel" ≠ "java/lang/invoke/VarHandle" ∧ (parseMethodDescriptor "(I)Z").map (fun d => d.parameters.length) = some 1) := ⟨wd_1900, wd_124, by decide, by decide, by decide, by decide +kernel⟩
set_option maxRecDepth 100000 in
theorem zk_147 : Cond.code ⟨"CapitalCaseModel", "house", "(III)I"⟩ prog_14_method_72_code 5 (some .int) ∈ xTB ∧ Cond.initialized "CapitalCaseModel" ∈ xTB ∧ 5 ≤ 45 ∧ ("CapitalCaseModel" ≠ "java/lang/invoke/MethodHandle" ∧ "CapitalCaseModel" ≠ "java/lang/invoke/VarHandle" ∧ (parseMethodDescriptor "(III)I").map (fun d => d.parameters.length) = some 3) := ⟨wd_1624, wd_124, by decide, by decide, by decide, by decide +kernel⟩
set_option maxRecDepth 100000 in
theorem zk_148 : Cond.code ⟨"CapitalCaseModel", "in", "(III)Z"⟩ prog_14_method_40_code 3 (some .boolean) ∈ xTB ∧ Cond.initialized "CapitalCaseModel" ∈ xTB ∧ 3 ≤ 45 ∧ ("CapitalCaseModel" ≠ "java/lang/invoke/MethodHandle" ∧ "CapitalCaseModel" ≠ "java/lang/invoke/VarHandle" ∧ (parseMethodDescriptor "(III)Z").map (fun d => d.parameters.length) = some 3) := ⟨wd_1631, wd_124, by decide, by decide, by decide, by decide +kernel⟩
set_option maxRecDepth 100000 in
theorem zk_149 : Cond.code ⟨"CapitalCaseModel", "is", "(I)Z"⟩ prog_14_method_14_code 2 (some .boolean) ∈ xTB ∧ Cond.initialized "CapitalCaseModel" ∈ xTB ∧ 2 ≤ 45 ∧ ("CapitalCaseModel" ≠ "java/lang/invoke/MethodHandle" ∧ "CapitalCaseModel" ≠ "java/lang/invoke/VarHandle" ∧ (parseMethodDescriptor "(I)Z").map (fun d => d.parameters.length) = some 1) := ⟨wd_1534, wd_124, by decide, by decide, by decide, by decide +kernel⟩
set_option maxRecDepth 100000 in
theorem zk_150 : Cond.code ⟨"CapitalCaseModel", "isBargain", "(IIII)Z"⟩ prog_14_method_96_code 5 (some .boolean) ∈ xTB ∧ Cond.initialized "CapitalCaseModel" ∈ xTB ∧ 5 ≤ 45 ∧ ("CapitalCaseModel" ≠ "java/lang/invoke/MethodHandle" ∧ "CapitalCaseModel" ≠ "java/lang/invoke/VarHandle" ∧ (parseMethodDescriptor "(IIII)Z").map (fun d => d.parameters.length) = some 4) := ⟨wd_1841, wd_124, by decide, by decide, by decide, by decide +kernel⟩
set_option maxRecDepth 100000 in
theorem zk_212 : Cond.code ⟨"CapitalCaseModel", "isDigit", "(I)Z"⟩ prog_14_method_7_code 1 (some .boolean) ∈ xTB ∧ Cond.initialized "CapitalCaseModel" ∈ xTB ∧ 1 ≤ 45 ∧ ("CapitalCaseModel" ≠ "java/lang/invoke/MethodHandle" ∧ "CapitalCaseModel" ≠ "java/lang/invoke/VarHandle" ∧ (parseMethodDescriptor "(I)Z").map (fun d => d.parameters.length) = some 1) := ⟨wd_1526, wd_124, by decide, by decide, by decide, by decide +kernel⟩
set_option maxRecDepth 100000 in
theorem zk_151 : Cond.code ⟨"CapitalCaseModel", "isHouse", "(I)Z"⟩ prog_14_method_43_code 2 (some .boolean) ∈ xTB ∧ Cond.initialized "CapitalCaseModel" ∈ xTB ∧ 2 ≤ 45 ∧ ("CapitalCaseModel" ≠ "java/lang/invoke/MethodHandle" ∧ "CapitalCaseModel" ≠ "java/lang/invoke/VarHandle" ∧ (parseMethodDescriptor "(I)Z").map (fun d => d.parameters.length) = some 1) := ⟨wd_1628, wd_124, by decide, by decide, by decide, by decide +kernel⟩
set_option maxRecDepth 100000 in
theorem zk_213 : Cond.code ⟨"CapitalCaseModel", "isLetter", "(I)Z"⟩ prog_14_method_8_code 1 (some .boolean) ∈ xTB ∧ Cond.initialized "CapitalCaseModel" ∈ xTB ∧ 1 ≤ 45 ∧ ("CapitalCaseModel" ≠ "java/lang/invoke/MethodHandle" ∧ "CapitalCaseModel" ≠ "java/lang/invoke/VarHandle" ∧ (parseMethodDescriptor "(I)Z").map (fun d => d.parameters.length) = some 1) := ⟨wd_1523, wd_124, by decide, by decide, by decide, by decide +kernel⟩
set_option maxRecDepth 100000 in
theorem zk_152 : Cond.code ⟨"CapitalCaseModel", "isLong", "(I)Z"⟩ prog_14_method_101_code 1 (some .boolean) ∈ xTB ∧ Cond.initialized "CapitalCaseModel" ∈ xTB ∧ 1 ≤ 45 ∧ ("CapitalCaseModel" ≠ "java/lang/invoke/MethodHandle" ∧ "CapitalCaseModel" ≠ "java/lang/invoke/VarHandle" ∧ (parseMethodDescriptor "(I)Z").map (fun d => d.parameters.length) = some 1) := ⟨wd_1753, wd_124, by decide, by decide, by decide, by decide +kernel⟩
set_option maxRecDepth 100000 in
theorem zk_153 : Cond.code ⟨"CapitalCaseModel", "isOpen", "(I)Z"⟩ prog_14_method_66_code 2 (some .boolean) ∈ xTB ∧ Cond.initialized "CapitalCaseModel" ∈ xTB ∧ 2 ≤ 45 ∧ ("CapitalCaseModel" ≠ "java/lang/invoke/MethodHandle" ∧ "CapitalCaseModel" ≠ "java/lang/invoke/VarHandle" ∧ (parseMethodDescriptor "(I)Z").map (fun d => d.parameters.length) = some 1) := ⟨wd_1714, wd_124, by decide, by decide, by decide, by decide +kernel⟩
set_option maxRecDepth 100000 in
theorem zk_154 : Cond.code ⟨"CapitalCaseModel", "isSort", "(I)Z"⟩ prog_14_method_44_code 1 (some .boolean) ∈ xTB ∧ Cond.initialized "CapitalCaseModel" ∈ xTB ∧ 1 ≤ 45 ∧ ("CapitalCaseModel" ≠ "java/lang/invoke/MethodHandle" ∧ "CapitalCaseModel" ≠ "java/lang/invoke/VarHandle" ∧ (parseMethodDescriptor "(I)Z").map (fun d => d.parameters.length) = some 1) := ⟨wd_1634, wd_124, by decide, by decide, by decide, by decide +kernel⟩
set_option maxRecDepth 100000 in
theorem zk_155 : Cond.code ⟨"CapitalCaseModel", "isVerse", "(I)Z"⟩ prog_14_method_45_code 2 (some .boolean) ∈ xTB ∧ Cond.initialized "CapitalCaseModel" ∈ xTB ∧ 2 ≤ 45 ∧ ("CapitalCaseModel" ≠ "java/lang/invoke/MethodHandle" ∧ "CapitalCaseModel" ≠ "java/lang/invoke/VarHandle" ∧ (parseMethodDescriptor "(I)Z").map (fun d => d.parameters.length) = some 1) := ⟨wd_1681, wd_124, by decide, by decide, by decide, by decide +kernel⟩
set_option maxRecDepth 100000 in
theorem zk_156 : Cond.code ⟨"CapitalCaseModel", "keepsAhead", "()V"⟩ prog_14_method_85_code 2 none ∈ xTB ∧ Cond.initialized "CapitalCaseModel" ∈ xTB ∧ 2 ≤ 45 ∧ ("CapitalCaseModel" ≠ "java/lang/invoke/MethodHandle" ∧ "CapitalCaseModel" ≠ "java/lang/invoke/VarHandle" ∧ (parseMethodDescriptor "()V").map (fun d => d.parameters.length) = some 0) := ⟨wd_1805, wd_124, by decide, by decide, by decide, by decide +kernel⟩
set_option maxRecDepth 100000 in
theorem zk_157 : Cond.code ⟨"CapitalCaseModel", "keepsRow", "()V"⟩ prog_14_method_47_code 2 none ∈ xTB ∧ Cond.initialized "CapitalCaseModel" ∈ xTB ∧ 2 ≤ 45 ∧ ("CapitalCaseModel" ≠ "java/lang/invoke/MethodHandle" ∧ "CapitalCaseModel" ≠ "java/lang/invoke/VarHandle" ∧ (parseMethodDescriptor "()V").map (fun d => d.parameters.length) = some 0) := ⟨wd_1281, wd_124, by decide, by decide, by decide, by decide +kernel⟩
set_option maxRecDepth 100000 in
theorem zk_158 : Cond.code ⟨"CapitalCaseModel", "late", "()I"⟩ prog_14_method_100_code 3 (some .int) ∈ xTB ∧ Cond.initialized "CapitalCaseModel" ∈ xTB ∧ 3 ≤ 45 ∧ ("CapitalCaseModel" ≠ "java/lang/invoke/MethodHandle" ∧ "CapitalCaseModel" ≠ "java/lang/invoke/VarHandle" ∧ (parseMethodDescriptor "()I").map (fun d => d.parameters.length) = some 0) := ⟨wd_1857, wd_124, by decide, by decide, by decide, by decide +kernel⟩
set_option maxRecDepth 100000 in
theorem zk_159 : Cond.code ⟨"CapitalCaseModel", "lawTells", "(II)I"⟩ prog_14_method_58_code 7 (some .int) ∈ xTB ∧ Cond.initialized "CapitalCaseModel" ∈ xTB ∧ 7 ≤ 45 ∧ ("CapitalCaseModel" ≠ "java/lang/invoke/MethodHandle" ∧ "CapitalCaseModel" ≠ "java/lang/invoke/VarHandle" ∧ (parseMethodDescriptor "(II)I").map (fun d => d.parameters.length) = some 2) := ⟨wd_1666, wd_124, by decide, by decide, by decide, by decide +kernel⟩
set_option maxRecDepth 100000 in
theorem zk_160 : Cond.code ⟨"CapitalCaseModel", "lend", "(III)Z"⟩ prog_14_method_80_code 4 (some .boolean) ∈ xTB ∧ Cond.initialized "CapitalCaseModel" ∈ xTB ∧ 4 ≤ 45 ∧ ("CapitalCaseModel" ≠ "java/lang/invoke/MethodHandle" ∧ "CapitalCaseModel" ≠ "java/lang/invoke/VarHandle" ∧ (parseMethodDescriptor "(III)Z").map (fun d => d.parameters.length) = some 3) := ⟨wd_1738, wd_124, by decide, by decide, by decide, by decide +kernel⟩
set_option maxRecDepth 100000 in
theorem zk_161 : Cond.code ⟨"CapitalCaseModel", "lentOut", "(II)I"⟩ prog_14_method_52_code 5 (some .int) ∈ xTB ∧ Cond.initialized "CapitalCaseModel" ∈ xTB ∧ 5 ≤ 45 ∧ ("CapitalCaseModel" ≠ "java/lang/invoke/MethodHandle" ∧ "CapitalCaseModel" ≠ "java/lang/invoke/VarHandle" ∧ (parseMethodDescriptor "(II)I").map (fun d => d.parameters.length) = some 2) := ⟨wd_1646, wd_124, by decide, by decide, by decide, by decide +kernel⟩
set_option maxRecDepth 100000 in
theorem zk_162 : Cond.code ⟨"CapitalCaseModel", "lentTo", "(II)I"⟩ prog_14_method_53_code 5 (some .int) ∈ xTB ∧ Cond.initialized "CapitalCaseModel" ∈ xTB ∧ 5 ≤ 45 ∧ ("CapitalCaseModel" ≠ "java/lang/invoke/MethodHandle" ∧ "CapitalCaseModel" ≠ "java/lang/invoke/VarHandle" ∧ (parseMethodDescriptor "(II)I").map (fun d => d.parameters.length) = some 2) := ⟨wd_1650, wd_124, by decide, by decide, by decide, by decide +kernel⟩
set_option maxRecDepth 100000 in
theorem zk_163 : Cond.code ⟨"CapitalCaseModel", "loans", "(II)I"⟩ prog_14_method_94_code 8 (some .int) ∈ xTB ∧ Cond.initialized "CapitalCaseModel" ∈ xTB ∧ 8 ≤ 45 ∧ ("CapitalCaseModel" ≠ "java/lang/invoke/MethodHandle" ∧ "CapitalCaseModel" ≠ "java/lang/invoke/VarHandle" ∧ (parseMethodDescriptor "(II)I").map (fun d => d.parameters.length) = some 2) := ⟨wd_1829, wd_124, by decide, by decide, by decide, by decide +kernel⟩
set_option maxRecDepth 100000 in
theorem zk_164 : Cond.code ⟨"CapitalCaseModel", "looks", "()V"⟩ prog_14_method_55_code 2 none ∈ xTB ∧ Cond.initialized "CapitalCaseModel" ∈ xTB ∧ 2 ≤ 45 ∧ ("CapitalCaseModel" ≠ "java/lang/invoke/MethodHandle" ∧ "CapitalCaseModel" ≠ "java/lang/invoke/VarHandle" ∧ (parseMethodDescriptor "()V").map (fun d => d.parameters.length) = some 0) := ⟨wd_1662, wd_124, by decide, by decide, by decide, by decide +kernel⟩
set_option maxRecDepth 100000 in
theorem zk_165 : Cond.code ⟨"CapitalCaseModel", "looksAt", "(II)V"⟩ prog_14_method_56_code 3 none ∈ xTB ∧ Cond.initialized "CapitalCaseModel" ∈ xTB ∧ 3 ≤ 45 ∧ ("CapitalCaseModel" ≠ "java/lang/invoke/MethodHandle" ∧ "CapitalCaseModel" ≠ "java/lang/invoke/VarHandle" ∧ (parseMethodDescriptor "(II)V").map (fun d => d.parameters.length) = some 2) := ⟨wd_1658, wd_124, by decide, by decide, by decide, by decide +kernel⟩
set_option maxRecDepth 100000 in
theorem zk_166 : Cond.code ⟨"CapitalCaseModel", "looksFor", "(I)V"⟩ prog_14_method_57_code 2 none ∈ xTB ∧ Cond.initialized "CapitalCaseModel" ∈ xTB ∧ 2 ≤ 45 ∧ ("CapitalCaseModel" ≠ "java/lang/invoke/MethodHandle" ∧ "CapitalCaseModel" ≠ "java/lang/invoke/VarHandle" ∧ (parseMethodDescriptor "(I)V").map (fun d => d.parameters.length) = some 1) := ⟨wd_1689, wd_124, by decide, by decide, by decide, by decide +kernel⟩
set_option maxRecDepth 100000 in
theorem zk_167 : Cond.code ⟨"CapitalCaseModel", "lotOf", "(II)I"⟩ prog_14_method_50_code 3 (some .int) ∈ xTB ∧ Cond.initialized "CapitalCaseModel" ∈ xTB ∧ 3 ≤ 45 ∧ ("CapitalCaseModel" ≠ "java/lang/invoke/MethodHandle" ∧ "CapitalCaseModel" ≠ "java/lang/invoke/VarHandle" ∧ (parseMethodDescriptor "(II)I").map (fun d => d.parameters.length) = some 2) := ⟨wd_1773, wd_124, by decide, by decide, by decide, by decide +kernel⟩
set_option maxRecDepth 100000 in
theorem zk_168 : Cond.code ⟨"CapitalCaseModel", "mixed", "(II)I"⟩ prog_14_method_49_code 3 (some .int) ∈ xTB ∧ Cond.initialized "CapitalCaseModel" ∈ xTB ∧ 3 ≤ 45 ∧ ("CapitalCaseModel" ≠ "java/lang/invoke/MethodHandle" ∧ "CapitalCaseModel" ≠ "java/lang/invoke/VarHandle" ∧ (parseMethodDescriptor "(II)I").map (fun d => d.parameters.length) = some 2) := ⟨wd_1776, wd_124, by decide, by decide, by decide, by decide +kernel⟩
set_option maxRecDepth 100000 in
theorem zk_169 : Cond.code ⟨"CapitalCaseModel", "must", "(I)V"⟩ prog_14_method_18_code 2 none ∈ xTB ∧ Cond.initialized "CapitalCaseModel" ∈ xTB ∧ 2 ≤ 45 ∧ ("CapitalCaseModel" ≠ "java/lang/invoke/MethodHandle" ∧ "CapitalCaseModel" ≠ "java/lang/invoke/VarHandle" ∧ (parseMethodDescriptor "(I)V").map (fun d => d.parameters.length) = some 1) := ⟨wd_1562, wd_124, by decide, by decide, by decide, by decide +kernel⟩
set_option maxRecDepth 100000 in
theorem zk_170 : Cond.code ⟨"CapitalCaseModel", "named", "()I"⟩ prog_14_method_25_code 3 (some .int) ∈ xTB ∧ Cond.initialized "CapitalCaseModel" ∈ xTB ∧ 3 ≤ 45 ∧ ("CapitalCaseModel" ≠ "java/lang/invoke/MethodHandle" ∧ "CapitalCaseModel" ≠ "java/lang/invoke/VarHandle" ∧ (parseMethodDescriptor "()I").map (fun d => d.parameters.length) = some 0) := ⟨wd_1558, wd_124, by decide, by decide, by decide, by decide +kernel⟩
set_option maxRecDepth 100000 in
theorem zk_171 : Cond.code ⟨"CapitalCaseModel", "needsOf", "(II)I"⟩ prog_14_method_93_code 5 (some .int) ∈ xTB ∧ Cond.initialized "CapitalCaseModel" ∈ xTB ∧ 5 ≤ 45 ∧ ("CapitalCaseModel" ≠ "java/lang/invoke/MethodHandle" ∧ "CapitalCaseModel" ≠ "java/lang/invoke/VarHandle" ∧ (parseMethodDescriptor "(II)I").map (fun d => d.parameters.length) = some 2) := ⟨wd_1833, wd_124, by decide, by decide, by decide, by decide +kernel⟩
set_option maxRecDepth 100000 in
theorem zk_172 : Cond.code ⟨"CapitalCaseModel", "openBits", "()I"⟩ prog_14_method_67_code 3 (some .int) ∈ xTB ∧ Cond.initialized "CapitalCaseModel" ∈ xTB ∧ 3 ≤ 45 ∧ ("CapitalCaseModel" ≠ "java/lang/invoke/MethodHandle" ∧ "CapitalCaseModel" ≠ "java/lang/invoke/VarHandle" ∧ (parseMethodDescriptor "()I").map (fun d => d.parameters.length) = some 0) := ⟨wd_1801, wd_124, by decide, by decide, by decide, by decide +kernel⟩
set_option maxRecDepth 100000 in
theorem zk_173 : Cond.code ⟨"CapitalCaseModel", "ownVerses", "(III)I"⟩ prog_14_method_95_code 8 (some .int) ∈ xTB ∧ Cond.initialized "CapitalCaseModel" ∈ xTB ∧ 8 ≤ 45 ∧ ("CapitalCaseModel" ≠ "java/lang/invoke/MethodHandle" ∧ "CapitalCaseModel" ≠ "java/lang/invoke/VarHandle" ∧ (parseMethodDescriptor "(III)I").map (fun d => d.parameters.length) = some 3) := ⟨wd_1845, wd_124, by decide, by decide, by decide, by decide +kernel⟩
set_option maxRecDepth 100000 in
theorem zk_174 : Cond.code ⟨"CapitalCaseModel", "paidIn", "(I)I"⟩ prog_14_method_104_code 2 (some .int) ∈ xTB ∧ Cond.initialized "CapitalCaseModel" ∈ xTB ∧ 2 ≤ 45 ∧ ("CapitalCaseModel" ≠ "java/lang/invoke/MethodHandle" ∧ "CapitalCaseModel" ≠ "java/lang/invoke/VarHandle" ∧ (parseMethodDescriptor "(I)I").map (fun d => d.parameters.length) = some 1) := ⟨wd_1869, wd_124, by decide, by decide, by decide, by decide +kernel⟩
set_option maxRecDepth 100000 in
theorem zk_175 : Cond.code ⟨"CapitalCaseModel", "paysOf", "(I)I"⟩ prog_14_method_62_code 2 (some .int) ∈ xTB ∧ Cond.initialized "CapitalCaseModel" ∈ xTB ∧ 2 ≤ 45 ∧ ("CapitalCaseModel" ≠ "java/lang/invoke/MethodHandle" ∧ "CapitalCaseModel" ≠ "java/lang/invoke/VarHandle" ∧ (parseMethodDescriptor "(I)I").map (fun d => d.parameters.length) = some 1) := ⟨wd_1685, wd_124, by decide, by decide, by decide, by decide +kernel⟩
set_option maxRecDepth 100000 in
theorem zk_176 : Cond.code ⟨"CapitalCaseModel", "pillar", "(I)I"⟩ prog_14_method_90_code 5 (some .int) ∈ xTB ∧ Cond.initialized "CapitalCaseModel" ∈ xTB ∧ 5 ≤ 45 ∧ ("CapitalCaseModel" ≠ "java/lang/invoke/MethodHandle" ∧ "CapitalCaseModel" ≠ "java/lang/invoke/VarHandle" ∧ (parseMethodDescriptor "(I)I").map (fun d => d.parameters.length) = some 1) := ⟨wd_1817, wd_124, by decide, by decide, by decide, by decide +kernel⟩
set_option maxRecDepth 100000 in
theorem zk_177 : Cond.code ⟨"CapitalCaseModel", "place", "()I"⟩ prog_14_method_21_code 1 (some .int) ∈ xTB ∧ Cond.initialized "CapitalCaseModel" ∈ xTB ∧ 1 ≤ 45 ∧ ("CapitalCaseModel" ≠ "java/lang/invoke/MethodHandle" ∧ "CapitalCaseModel" ≠ "java/lang/invoke/VarHandle" ∧ (parseMethodDescriptor "()I").map (fun d => d.parameters.length) = some 0) := ⟨wd_1620, wd_124, by decide, by decide, by decide, by decide +kernel⟩
set_option maxRecDepth 100000 in
theorem zk_178 : Cond.code ⟨"CapitalCaseModel", "put", "(I)V"⟩ prog_14_method_4_code 3 none ∈ xTB ∧ Cond.initialized "CapitalCaseModel" ∈ xTB ∧ 3 ≤ 45 ∧ ("CapitalCaseModel" ≠ "java/lang/invoke/MethodHandle" ∧ "CapitalCaseModel" ≠ "java/lang/invoke/VarHandle" ∧ (parseMethodDescriptor "(I)V").map (fun d => d.parameters.length) = some 1) := ⟨wd_1500, wd_124, by decide, by decide, by decide, by decide +kernel⟩
set_option maxRecDepth 100000 in
theorem zk_179 : Cond.code ⟨"CapitalCaseModel", "rankOf", "(III)I"⟩ prog_14_method_60_code 4 (some .int) ∈ xTB ∧ Cond.initialized "CapitalCaseModel" ∈ xTB ∧ 4 ≤ 45 ∧ ("CapitalCaseModel" ≠ "java/lang/invoke/MethodHandle" ∧ "CapitalCaseModel" ≠ "java/lang/invoke/VarHandle" ∧ (parseMethodDescriptor "(III)I").map (fun d => d.parameters.length) = some 3) := ⟨wd_1702, wd_124, by decide, by decide, by decide, by decide +kernel⟩
set_option maxRecDepth 100000 in
theorem zk_180 : Cond.code ⟨"CapitalCaseModel", "read", "()I"⟩ prog_14_method_20_code 2 (some .int) ∈ xTB ∧ Cond.initialized "CapitalCaseModel" ∈ xTB ∧ 2 ≤ 45 ∧ ("CapitalCaseModel" ≠ "java/lang/invoke/MethodHandle" ∧ "CapitalCaseModel" ≠ "java/lang/invoke/VarHandle" ∧ (parseMethodDescriptor "()I").map (fun d => d.parameters.length) = some 0) := ⟨wd_1508, wd_124, by decide, by decide, by decide, by decide +kernel⟩
set_option maxRecDepth 100000 in
theorem zk_181 : Cond.code ⟨"CapitalCaseModel", "records", "()V"⟩ prog_14_method_76_code 2 none ∈ xTB ∧ Cond.initialized "CapitalCaseModel" ∈ xTB ∧ 2 ≤ 45 ∧ ("CapitalCaseModel" ≠ "java/lang/invoke/MethodHandle" ∧ "CapitalCaseModel" ≠ "java/lang/invoke/VarHandle" ∧ (parseMethodDescriptor "()V").map (fun d => d.parameters.length) = some 0) := ⟨wd_1730, wd_124, by decide, by decide, by decide, by decide +kernel⟩
set_option maxRecDepth 100000 in
theorem zk_182 : Cond.code ⟨"CapitalCaseModel", "restore", "(I)Z"⟩ prog_14_method_112_code 3 (some .boolean) ∈ xTB ∧ Cond.initialized "CapitalCaseModel" ∈ xTB ∧ 3 ≤ 45 ∧ ("CapitalCaseModel" ≠ "java/lang/invoke/MethodHandle" ∧ "CapitalCaseModel" ≠ "java/lang/invoke/VarHandle" ∧ (parseMethodDescriptor "(I)Z").map (fun d => d.parameters.length) = some 1) := ⟨wd_1904, wd_124, by decide, by decide, by decide, by decide +kernel⟩
set_option maxRecDepth 100000 in
theorem zk_183 : Cond.code ⟨"CapitalCaseModel", "roomFor", "(II)V"⟩ prog_14_method_22_code 3 none ∈ xTB ∧ Cond.initialized "CapitalCaseModel" ∈ xTB ∧ 3 ≤ 45 ∧ ("CapitalCaseModel" ≠ "java/lang/invoke/MethodHandle" ∧ "CapitalCaseModel" ≠ "java/lang/invoke/VarHandle" ∧ (parseMethodDescriptor "(II)V").map (fun d => d.parameters.length) = some 2) := ⟨wd_1542, wd_124, by decide, by decide, by decide, by decide +kernel⟩
set_option maxRecDepth 100000 in
theorem zk_184 : Cond.code ⟨"CapitalCaseModel", "set", "(I)Z"⟩ prog_14_method_77_code 2 (some .boolean) ∈ xTB ∧ Cond.initialized "CapitalCaseModel" ∈ xTB ∧ 2 ≤ 45 ∧ ("CapitalCaseModel" ≠ "java/lang/invoke/MethodHandle" ∧ "CapitalCaseModel" ≠ "java/lang/invoke/VarHandle" ∧ (parseMethodDescriptor "(I)Z").map (fun d => d.parameters.length) = some 1) := ⟨wd_1710, wd_124, by decide, by decide, by decide, by decide +kernel⟩
set_option maxRecDepth 100000 in
theorem zk_185 : Cond.code ⟨"CapitalCaseModel", "sets", "(I)Z"⟩ prog_14_method_65_code 5 (some .boolean) ∈ xTB ∧ Cond.initialized "CapitalCaseModel" ∈ xTB ∧ 5 ≤ 45 ∧ ("CapitalCaseModel" ≠ "java/lang/invoke/MethodHandle" ∧ "CapitalCaseModel" ≠ "java/lang/invoke/VarHandle" ∧ (parseMethodDescriptor "(I)Z").map (fun d => d.parameters.length) = some 1) := ⟨wd_1718, wd_124, by decide, by decide, by decide, by decide +kernel⟩
set_option maxRecDepth 100000 in
theorem zk_186 : Cond.code ⟨"CapitalCaseModel", "strike", "(I)I"⟩ prog_14_method_98_code 5 (some .int) ∈ xTB ∧ Cond.initialized "CapitalCaseModel" ∈ xTB ∧ 5 ≤ 45 ∧ ("CapitalCaseModel" ≠ "java/lang/invoke/MethodHandle" ∧ "CapitalCaseModel" ≠ "java/lang/invoke/VarHandle" ∧ (parseMethodDescriptor "(I)I").map (fun d => d.parameters.length) = some 1) := ⟨wd_1849, wd_124, by decide, by decide, by decide, by decide +kernel⟩
set_option maxRecDepth 100000 in
theorem zk_187 : Cond.code ⟨"CapitalCaseModel", "sumNow", "(II)I"⟩ prog_14_method_113_code 5 (some .int) ∈ xTB ∧ Cond.initialized "CapitalCaseModel" ∈ xTB ∧ 5 ≤ 45 ∧ ("CapitalCaseModel" ≠ "java/lang/invoke/MethodHandle" ∧ "CapitalCaseModel" ≠ "java/lang/invoke/VarHandle" ∧ (parseMethodDescriptor "(II)I").map (fun d => d.parameters.length) = some 2) := ⟨wd_1916, wd_124, by decide, by decide, by decide, by decide +kernel⟩
set_option maxRecDepth 100000 in
theorem zk_188 : Cond.code ⟨"CapitalCaseModel", "tell", "(IIZ)I"⟩ prog_14_method_106_code 4 (some .int) ∈ xTB ∧ Cond.initialized "CapitalCaseModel" ∈ xTB ∧ 4 ≤ 45 ∧ ("CapitalCaseModel" ≠ "java/lang/invoke/MethodHandle" ∧ "CapitalCaseModel" ≠ "java/lang/invoke/VarHandle" ∧ (parseMethodDescriptor "(IIZ)I").map (fun d => d.parameters.length) = some 3) := ⟨wd_1877, wd_124, by decide, by decide, by decide, by decide +kernel⟩
set_option maxRecDepth 100000 in
theorem zk_189 : Cond.code ⟨"CapitalCaseModel", "tells", "(IIII)I"⟩ prog_14_method_75_code 5 (some .int) ∈ xTB ∧ Cond.initialized "CapitalCaseModel" ∈ xTB ∧ 5 ≤ 45 ∧ ("CapitalCaseModel" ≠ "java/lang/invoke/MethodHandle" ∧ "CapitalCaseModel" ≠ "java/lang/invoke/VarHandle" ∧ (parseMethodDescriptor "(IIII)I").map (fun d => d.parameters.length) = some 4) := ⟨wd_1697, wd_124, by decide, by decide, by decide, by decide +kernel⟩
set_option maxRecDepth 100000 in
theorem zk_190 : Cond.code ⟨"CapitalCaseModel", "then", "(IIII)I"⟩ prog_14_method_103_code 5 (some .int) ∈ xTB ∧ Cond.initialized "CapitalCaseModel" ∈ xTB ∧ 5 ≤ 45 ∧ ("CapitalCaseModel" ≠ "java/lang/invoke/MethodHandle" ∧ "CapitalCaseModel" ≠ "java/lang/invoke/VarHandle" ∧ (parseMethodDescriptor "(IIII)I").map (fun d => d.parameters.length) = some 4) := ⟨wd_1865, wd_124, by decide, by decide, by decide, by decide +kernel⟩
set_option maxRecDepth 100000 in
theorem zk_191 : Cond.code ⟨"CapitalCaseModel", "thievesCome", "()V"⟩ prog_14_method_69_code 4 none ∈ xTB ∧ Cond.initialized "CapitalCaseModel" ∈ xTB ∧ 4 ≤ 45 ∧ ("CapitalCaseModel" ≠ "java/lang/invoke/MethodHandle" ∧ "CapitalCaseModel" ≠ "java/lang/invoke/VarHandle" ∧ (parseMethodDescriptor "()V").map (fun d => d.parameters.length) = some 0) := ⟨wd_1781, wd_124, by decide, by decide, by decide, by decide +kernel⟩
set_option maxRecDepth 100000 in
theorem zk_192 : Cond.code ⟨"CapitalCaseModel", "toldInt", "(II)I"⟩ prog_14_method_23_code 4 (some .int) ∈ xTB ∧ Cond.initialized "CapitalCaseModel" ∈ xTB ∧ 4 ≤ 45 ∧ ("CapitalCaseModel" ≠ "java/lang/invoke/MethodHandle" ∧ "CapitalCaseModel" ≠ "java/lang/invoke/VarHandle" ∧ (parseMethodDescriptor "(II)I").map (fun d => d.parameters.length) = some 2) := ⟨wd_1592, wd_124, by decide, by decide, by decide, by decide +kernel⟩
set_option maxRecDepth 100000 in
theorem zk_193 : Cond.code ⟨"CapitalCaseModel", "twoDays", "(I)I"⟩ prog_14_method_92_code 7 (some .int) ∈ xTB ∧ Cond.initialized "CapitalCaseModel" ∈ xTB ∧ 7 ≤ 45 ∧ ("CapitalCaseModel" ≠ "java/lang/invoke/MethodHandle" ∧ "CapitalCaseModel" ≠ "java/lang/invoke/VarHandle" ∧ (parseMethodDescriptor "(I)I").map (fun d => d.parameters.length) = some 1) := ⟨wd_1821, wd_124, by decide, by decide, by decide, by decide +kernel⟩
set_option maxRecDepth 100000 in
theorem zk_194 : Cond.code ⟨"CapitalCaseModel", "undo", "()Z"⟩ prog_14_method_83_code 2 (some .boolean) ∈ xTB ∧ Cond.initialized "CapitalCaseModel" ∈ xTB ∧ 2 ≤ 45 ∧ ("CapitalCaseModel" ≠ "java/lang/invoke/MethodHandle" ∧ "CapitalCaseModel" ≠ "java/lang/invoke/VarHandle" ∧ (parseMethodDescriptor "()Z").map (fun d => d.parameters.length) = some 0) := ⟨wd_1785, wd_124, by decide, by decide, by decide, by decide +kernel⟩
set_option maxRecDepth 100000 in
theorem zk_195 : Cond.code ⟨"CapitalCaseModel", "verse", "(II)I"⟩ prog_14_method_73_code 3 (some .int) ∈ xTB ∧ Cond.initialized "CapitalCaseModel" ∈ xTB ∧ 3 ≤ 45 ∧ ("CapitalCaseModel" ≠ "java/lang/invoke/MethodHandle" ∧ "CapitalCaseModel" ≠ "java/lang/invoke/VarHandle" ∧ (parseMethodDescriptor "(II)I").map (fun d => d.parameters.length) = some 2) := ⟨wd_1677, wd_124, by decide, by decide, by decide, by decide +kernel⟩
set_option maxRecDepth 100000 in
theorem zk_196 : Cond.code ⟨"CapitalCaseModel", "versesSo", "(II)I"⟩ prog_14_method_114_code 5 (some .int) ∈ xTB ∧ Cond.initialized "CapitalCaseModel" ∈ xTB ∧ 5 ≤ 45 ∧ ("CapitalCaseModel" ≠ "java/lang/invoke/MethodHandle" ∧ "CapitalCaseModel" ≠ "java/lang/invoke/VarHandle" ∧ (parseMethodDescriptor "(II)I").map (fun d => d.parameters.length) = some 2) := ⟨wd_1912, wd_124, by decide, by decide, by decide, by decide +kernel⟩
set_option maxRecDepth 100000 in
theorem zk_197 : Cond.code ⟨"CapitalCaseModel", "wants", "(II)I"⟩ prog_14_method_74_code 3 (some .int) ∈ xTB ∧ Cond.initialized "CapitalCaseModel" ∈ xTB ∧ 3 ≤ 45 ∧ ("CapitalCaseModel" ≠ "java/lang/invoke/MethodHandle" ∧ "CapitalCaseModel" ≠ "java/lang/invoke/VarHandle" ∧ (parseMethodDescriptor "(II)I").map (fun d => d.parameters.length) = some 2) := ⟨wd_1693, wd_124, by decide, by decide, by decide, by decide +kernel⟩
set_option maxRecDepth 100000 in
theorem zk_198 : Cond.code ⟨"CapitalCaseModel", "wears", "(I)V"⟩ prog_14_method_68_code 2 none ∈ xTB ∧ Cond.initialized "CapitalCaseModel" ∈ xTB ∧ 2 ≤ 45 ∧ ("CapitalCaseModel" ≠ "java/lang/invoke/MethodHandle" ∧ "CapitalCaseModel" ≠ "java/lang/invoke/VarHandle" ∧ (parseMethodDescriptor "(I)V").map (fun d => d.parameters.length) = some 1) := ⟨wd_1765, wd_124, by decide, by decide, by decide, by decide +kernel⟩
set_option maxRecDepth 100000 in
theorem zk_199 : Cond.code ⟨"CapitalCaseModel", "wearsOf", "(II)I"⟩ prog_14_method_61_code 3 (some .int) ∈ xTB ∧ Cond.initialized "CapitalCaseModel" ∈ xTB ∧ 3 ≤ 45 ∧ ("CapitalCaseModel" ≠ "java/lang/invoke/MethodHandle" ∧ "CapitalCaseModel" ≠ "java/lang/invoke/VarHandle" ∧ (parseMethodDescriptor "(II)I").map (fun d => d.parameters.length) = some 2) := ⟨wd_1654, wd_124, by decide, by decide, by decide, by decide +kernel⟩
set_option maxRecDepth 100000 in
theorem zk_200 : Cond.code ⟨"CapitalCaseModel", "whose", "(II)I"⟩ prog_14_method_109_code 4 (some .int) ∈ xTB ∧ Cond.initialized "CapitalCaseModel" ∈ xTB ∧ 4 ≤ 45 ∧ ("CapitalCaseModel" ≠ "java/lang/invoke/MethodHandle" ∧ "CapitalCaseModel" ≠ "java/lang/invoke/VarHandle" ∧ (parseMethodDescriptor "(II)I").map (fun d => d.parameters.length) = some 2) := ⟨wd_1885, wd_124, by decide, by decide, by decide, by decide +kernel⟩
set_option maxRecDepth 100000 in
theorem zk_201 : Cond.code ⟨"CapitalCaseModel", "whoseBits", "(I)I"⟩ prog_14_method_108_code 6 (some .int) ∈ xTB ∧ Cond.initialized "CapitalCaseModel" ∈ xTB ∧ 6 ≤ 45 ∧ ("CapitalCaseModel" ≠ "java/lang/invoke/MethodHandle" ∧ "CapitalCaseModel" ≠ "java/lang/invoke/VarHandle" ∧ (parseMethodDescriptor "(I)I").map (fun d => d.parameters.length) = some 1) := ⟨wd_1889, wd_124, by decide, by decide, by decide, by decide +kernel⟩
set_option maxRecDepth 100000 in
theorem zk_202 : Cond.code ⟨"CapitalCaseModel", "wornOut", "(II)I"⟩ prog_14_method_102_code 4 (some .int) ∈ xTB ∧ Cond.initialized "CapitalCaseModel" ∈ xTB ∧ 4 ≤ 45 ∧ ("CapitalCaseModel" ≠ "java/lang/invoke/MethodHandle" ∧ "CapitalCaseModel" ≠ "java/lang/invoke/VarHandle" ∧ (parseMethodDescriptor "(II)I").map (fun d => d.parameters.length) = some 2) := ⟨wd_1861, wd_124, by decide, by decide, by decide, by decide +kernel⟩
set_option maxRecDepth 100000 in
theorem zk_203 : Cond.code ⟨"CapitalCaseModel", "worth", "(II)I"⟩ prog_14_method_89_code 4 (some .int) ∈ xTB ∧ Cond.initialized "CapitalCaseModel" ∈ xTB ∧ 4 ≤ 45 ∧ ("CapitalCaseModel" ≠ "java/lang/invoke/MethodHandle" ∧ "CapitalCaseModel" ≠ "java/lang/invoke/VarHandle" ∧ (parseMethodDescriptor "(II)I").map (fun d => d.parameters.length) = some 2) := ⟨wd_1813, wd_124, by decide, by decide, by decide, by decide +kernel⟩
set_option maxRecDepth 100000 in
theorem zk_204 : Cond.code ⟨"CapitalCaseModel", "wrong", "(II)V"⟩ prog_14_method_16_code 4 none ∈ xTB ∧ Cond.initialized "CapitalCaseModel" ∈ xTB ∧ 4 ≤ 45 ∧ ("CapitalCaseModel" ≠ "java/lang/invoke/MethodHandle" ∧ "CapitalCaseModel" ≠ "java/lang/invoke/VarHandle" ∧ (parseMethodDescriptor "(II)V").map (fun d => d.parameters.length) = some 2) := ⟨wd_1566, wd_124, by decide, by decide, by decide, by decide +kernel⟩
set_option maxRecDepth 100000 in
theorem zk_205 : Cond.code ⟨"CapitalCaseModel", "year", "(IIII)I"⟩ prog_14_method_105_code 7 (some .int) ∈ xTB ∧ Cond.initialized "CapitalCaseModel" ∈ xTB ∧ 7 ≤ 45 ∧ ("CapitalCaseModel" ≠ "java/lang/invoke/MethodHandle" ∧ "CapitalCaseModel" ≠ "java/lang/invoke/VarHandle" ∧ (parseMethodDescriptor "(IIII)I").map (fun d => d.parameters.length) = some 4) := ⟨wd_1873, wd_124, by decide, by decide, by decide, by decide +kernel⟩
set_option maxRecDepth 100000 in
theorem zk_206 : Cond.code ⟨"java/lang/Integer", "bitCount", "(I)I"⟩ prog_16_method_49_code 1 (some .int) ∈ xTB ∧ Cond.initialized "java/lang/Integer" ∈ xTB ∧ 1 ≤ 45 ∧ ("java/lang/Integer" ≠ "java/lang/invoke/MethodHandle" ∧ "java/lang/Integer" ≠ "java/lang/invoke/VarHandle" ∧ (parseMethodDescriptor "(I)I").map (fun d => d.parameters.length) = some 1) := ⟨wd_1219, wd_132, by decide, by decide, by decide, by decide +kernel⟩
set_option maxRecDepth 100000 in
theorem zk_207 : Cond.code ⟨"java/util/Arrays", "fill", "([II)V"⟩ prog_22_method_103_code 4 none ∈ xTB ∧ Cond.initialized "java/util/Arrays" ∈ xTB ∧ 4 ≤ 45 ∧ ("java/util/Arrays" ≠ "java/lang/invoke/MethodHandle" ∧ "java/util/Arrays" ≠ "java/lang/invoke/VarHandle" ∧ (parseMethodDescriptor "([II)V").map (fun d => d.parameters.length) = some 2) := ⟨wd_153, wd_113, by decide, by decide, by decide, by decide +kernel⟩
set_option maxRecDepth 100000 in
theorem zk_214 : Cond.code ⟨"CapitalCaseModel", "cut", "()V"⟩ prog_14_method_12_code 8 none ∈ xTB ∧ Cond.initialized "CapitalCaseModel" ∈ xTB ∧ 8 ≤ 45 ∧ ("CapitalCaseModel" ≠ "java/lang/invoke/MethodHandle" ∧ "CapitalCaseModel" ≠ "java/lang/invoke/VarHandle" ∧ (parseMethodDescriptor "()V").map (fun d => d.parameters.length) = some 0) := ⟨wd_1512, wd_124, by decide, by decide, by decide, by decide +kernel⟩
set_option maxRecDepth 100000 in
theorem zk_215 : Cond.code ⟨"CapitalCaseModel", "token", "(IIIJ)V"⟩ prog_14_method_11_code 6 none ∈ xTB ∧ Cond.initialized "CapitalCaseModel" ∈ xTB ∧ 6 ≤ 45 ∧ ("CapitalCaseModel" ≠ "java/lang/invoke/MethodHandle" ∧ "CapitalCaseModel" ≠ "java/lang/invoke/VarHandle" ∧ (parseMethodDescriptor "(IIIJ)V").map (fun d => d.parameters.length) = some 4) := ⟨wd_1520, wd_124, by decide, by decide, by decide, by decide +kernel⟩
set_option maxRecDepth 100000 in
theorem zk_216 : Cond.code ⟨"CapitalCaseModel", "sign", "(III)I"⟩ prog_14_method_13_code 5 (some .int) ∈ xTB ∧ Cond.initialized "CapitalCaseModel" ∈ xTB ∧ 5 ≤ 45 ∧ ("CapitalCaseModel" ≠ "java/lang/invoke/MethodHandle" ∧ "CapitalCaseModel" ≠ "java/lang/invoke/VarHandle" ∧ (parseMethodDescriptor "(III)I").map (fun d => d.parameters.length) = some 3) := ⟨wd_1530, wd_124, by decide, by decide, by decide, by decide +kernel⟩
set_option maxRecDepth 100000 in
theorem zk_217 : Cond.code ⟨"CapitalCaseModel", "appends", "(JI)J"⟩ prog_14_method_9_code 3 (some .long) ∈ xTB ∧ Cond.initialized "CapitalCaseModel" ∈ xTB ∧ 3 ≤ 45 ∧ ("CapitalCaseModel" ≠ "java/lang/invoke/MethodHandle" ∧ "CapitalCaseModel" ≠ "java/lang/invoke/VarHandle" ∧ (parseMethodDescriptor "(JI)J").map (fun d => d.parameters.length) = some 2) := ⟨wd_1272, wd_124, by decide, by decide, by decide, by decide +kernel⟩
set_option maxRecDepth 100000 in
theorem zk_218 : Cond.code ⟨"CapitalCaseModel", "plain", "(I)V"⟩ prog_14_method_19_code 3 none ∈ xTB ∧ Cond.initialized "CapitalCaseModel" ∈ xTB ∧ 3 ≤ 45 ∧ ("CapitalCaseModel" ≠ "java/lang/invoke/MethodHandle" ∧ "CapitalCaseModel" ≠ "java/lang/invoke/VarHandle" ∧ (parseMethodDescriptor "(I)V").map (fun d => d.parameters.length) = some 1) := ⟨wd_1266, wd_124, by decide, by decide, by decide, by decide +kernel⟩
set_option maxRecDepth 100000 in
theorem zk_219 : Cond.code ⟨"CapitalCaseModel", "tellOne", "()V"⟩ prog_14_method_24_code 2 none ∈ xTB ∧ Cond.initialized "CapitalCaseModel" ∈ xTB ∧ 2 ≤ 45 ∧ ("CapitalCaseModel" ≠ "java/lang/invoke/MethodHandle" ∧ "CapitalCaseModel" ≠ "java/lang/invoke/VarHandle" ∧ (parseMethodDescriptor "()V").map (fun d => d.parameters.length) = some 0) := ⟨wd_1538, wd_124, by decide, by decide, by decide, by decide +kernel⟩
set_option maxRecDepth 100000 in
theorem zk_220 : Cond.code ⟨"CapitalCaseModel", "ends", "(I)V"⟩ prog_14_method_26_code 2 none ∈ xTB ∧ Cond.initialized "CapitalCaseModel" ∈ xTB ∧ 2 ≤ 45 ∧ ("CapitalCaseModel" ≠ "java/lang/invoke/MethodHandle" ∧ "CapitalCaseModel" ≠ "java/lang/invoke/VarHandle" ∧ (parseMethodDescriptor "(I)V").map (fun d => d.parameters.length) = some 1) := ⟨wd_1580, wd_124, by decide, by decide, by decide, by decide +kernel⟩
set_option maxRecDepth 100000 in
theorem zk_221 : Cond.code ⟨"CapitalCaseModel", "takesLetters", "()V"⟩ prog_14_method_30_code 4 none ∈ xTB ∧ Cond.initialized "CapitalCaseModel" ∈ xTB ∧ 4 ≤ 45 ∧ ("CapitalCaseModel" ≠ "java/lang/invoke/MethodHandle" ∧ "CapitalCaseModel" ≠ "java/lang/invoke/VarHandle" ∧ (parseMethodDescriptor "()V").map (fun d => d.parameters.length) = some 0) := ⟨wd_1570, wd_124, by decide, by decide, by decide, by decide +kernel⟩
set_option maxRecDepth 100000 in
theorem zk_222 : Cond.code ⟨"CapitalCaseModel", "lettersIn", "(J)I"⟩ prog_14_method_28_code 5 (some .int) ∈ xTB ∧ Cond.initialized "CapitalCaseModel" ∈ xTB ∧ 5 ≤ 45 ∧ ("CapitalCaseModel" ≠ "java/lang/invoke/MethodHandle" ∧ "CapitalCaseModel" ≠ "java/lang/invoke/VarHandle" ∧ (parseMethodDescriptor "(J)I").map (fun d => d.parameters.length) = some 1) := ⟨wd_1573, wd_124, by decide, by decide, by decide, by decide +kernel⟩
set_option maxRecDepth 100000 in
theorem zk_223 : Cond.code ⟨"CapitalCaseModel", "letterIn", "(JI)I"⟩ prog_14_method_29_code 6 (some .int) ∈ xTB ∧ Cond.initialized "CapitalCaseModel" ∈ xTB ∧ 6 ≤ 45 ∧ ("CapitalCaseModel" ≠ "java/lang/invoke/MethodHandle" ∧ "CapitalCaseModel" ≠ "java/lang/invoke/VarHandle" ∧ (parseMethodDescriptor "(JI)I").map (fun d => d.parameters.length) = some 2) := ⟨wd_1576, wd_124, by decide, by decide, by decide, by decide +kernel⟩
set_option maxRecDepth 100000 in
theorem zk_224 : Cond.code ⟨"CapitalCaseModel", "tellHouse", "()V"⟩ prog_14_method_31_code 4 none ∈ xTB ∧ Cond.initialized "CapitalCaseModel" ∈ xTB ∧ 4 ≤ 45 ∧ ("CapitalCaseModel" ≠ "java/lang/invoke/MethodHandle" ∧ "CapitalCaseModel" ≠ "java/lang/invoke/VarHandle" ∧ (parseMethodDescriptor "()V").map (fun d => d.parameters.length) = some 0) := ⟨wd_1554, wd_124, by decide, by decide, by decide, by decide +kernel⟩
set_option maxRecDepth 100000 in
theorem zk_225 : Cond.code ⟨"CapitalCaseModel", "tellVerse", "()V"⟩ prog_14_method_32_code 4 none ∈ xTB ∧ Cond.initialized "CapitalCaseModel" ∈ xTB ∧ 4 ≤ 45 ∧ ("CapitalCaseModel" ≠ "java/lang/invoke/MethodHandle" ∧ "CapitalCaseModel" ≠ "java/lang/invoke/VarHandle" ∧ (parseMethodDescriptor "()V").map (fun d => d.parameters.length) = some 0) := ⟨wd_1584, wd_124, by decide, by decide, by decide, by decide +kernel⟩
set_option maxRecDepth 100000 in
theorem zk_226 : Cond.code ⟨"CapitalCaseModel", "tellLaw", "(I)V"⟩ prog_14_method_33_code 4 none ∈ xTB ∧ Cond.initialized "CapitalCaseModel" ∈ xTB ∧ 4 ≤ 45 ∧ ("CapitalCaseModel" ≠ "java/lang/invoke/MethodHandle" ∧ "CapitalCaseModel" ≠ "java/lang/invoke/VarHandle" ∧ (parseMethodDescriptor "(I)V").map (fun d => d.parameters.length) = some 1) := ⟨wd_1596, wd_124, by decide, by decide, by decide, by decide +kernel⟩
set_option maxRecDepth 100000 in
theorem zk_227 : Cond.code ⟨"CapitalCaseModel", "term", "()V"⟩ prog_14_method_34_code 1 none ∈ xTB ∧ Cond.initialized "CapitalCaseModel" ∈ xTB ∧ 1 ≤ 45 ∧ ("CapitalCaseModel" ≠ "java/lang/invoke/MethodHandle" ∧ "CapitalCaseModel" ≠ "java/lang/invoke/VarHandle" ∧ (parseMethodDescriptor "()V").map (fun d => d.parameters.length) = some 0) := ⟨wd_1616, wd_124, by decide, by decide, by decide, by decide +kernel⟩
set_option maxRecDepth 100000 in
theorem zk_228 : Cond.code ⟨"CapitalCaseModel", "emit", "(II)V"⟩ prog_14_method_35_code 3 none ∈ xTB ∧ Cond.initialized "CapitalCaseModel" ∈ xTB ∧ 3 ≤ 45 ∧ ("CapitalCaseModel" ≠ "java/lang/invoke/MethodHandle" ∧ "CapitalCaseModel" ≠ "java/lang/invoke/VarHandle" ∧ (parseMethodDescriptor "(II)V").map (fun d => d.parameters.length) = some 2) := ⟨wd_1608, wd_124, by decide, by decide, by decide, by decide +kernel⟩
set_option maxRecDepth 100000 in
theorem zk_229 : Cond.code ⟨"CapitalCaseModel", "comesOut", "(Z)V"⟩ prog_14_method_36_code 3 none ∈ xTB ∧ Cond.initialized "CapitalCaseModel" ∈ xTB ∧ 3 ≤ 45 ∧ ("CapitalCaseModel" ≠ "java/lang/invoke/MethodHandle" ∧ "CapitalCaseModel" ≠ "java/lang/invoke/VarHandle" ∧ (parseMethodDescriptor "(Z)V").map (fun d => d.parameters.length) = some 1) := ⟨wd_1612, wd_124, by decide, by decide, by decide, by decide +kernel⟩
set_option maxRecDepth 100000 in
theorem zk_230 : Cond.code ⟨"CapitalCaseModel", "expression", "()V"⟩ prog_14_method_37_code 3 none ∈ xTB ∧ Cond.initialized "CapitalCaseModel" ∈ xTB ∧ 3 ≤ 45 ∧ ("CapitalCaseModel" ≠ "java/lang/invoke/MethodHandle" ∧ "CapitalCaseModel" ≠ "java/lang/invoke/VarHandle" ∧ (parseMethodDescriptor "()V").map (fun d => d.parameters.length) = some 0) := ⟨wd_1600, wd_124, by decide, by decide, by decide, by decide +kernel⟩
set_option maxRecDepth 100000 in
theorem zk_231 : Cond.code ⟨"CapitalCaseModel", "unit", "()V"⟩ prog_14_method_38_code 1 none ∈ xTB ∧ Cond.initialized "CapitalCaseModel" ∈ xTB ∧ 1 ≤ 45 ∧ ("CapitalCaseModel" ≠ "java/lang/invoke/MethodHandle" ∧ "CapitalCaseModel" ≠ "java/lang/invoke/VarHandle" ∧ (parseMethodDescriptor "()V").map (fun d => d.parameters.length) = some 0) := ⟨wd_1604, wd_124, by decide, by decide, by decide, by decide +kernel⟩
set_option maxRecDepth 100000 in
theorem zk_232 : Cond.code ⟨"CapitalCaseModel", "termOf", "(II)I"⟩ prog_14_method_39_code 8 (some .int) ∈ xTB ∧ Cond.initialized "CapitalCaseModel" ∈ xTB ∧ 8 ≤ 45 ∧ ("CapitalCaseModel" ≠ "java/lang/invoke/MethodHandle" ∧ "CapitalCaseModel" ≠ "java/lang/invoke/VarHandle" ∧ (parseMethodDescriptor "(II)I").map (fun d => d.parameters.length) = some 2) := ⟨wd_1670, wd_124, by decide, by decide, by decide, by decide +kernel⟩
set_option maxRecDepth 100000 in
theorem zk_233 : Cond.code ⟨"CapitalCase$Script", "leadOn", "(I)V"⟩ prog_8_method_5_code 2 none ∈ xTB ∧ Cond.initialized "CapitalCase$Script" ∈ xTB ∧ 2 ≤ 45 ∧ ("CapitalCase$Script" ≠ "java/lang/invoke/MethodHandle" ∧ "CapitalCase$Script" ≠ "java/lang/invoke/VarHandle" ∧ (parseMethodDescriptor "(I)V").map (fun d => d.parameters.length) = some 1) := ⟨wd_820, wd_112, by decide, by decide, by decide, by decide +kernel⟩
set_option maxRecDepth 100000 in
theorem zk_234 : Cond.code ⟨"CapitalCase$Parser", "parseSum", "(I)Z"⟩ prog_4_method_16_code 4 (some .boolean) ∈ xTB ∧ Cond.initialized "CapitalCase$Parser" ∈ xTB ∧ 4 ≤ 45 ∧ ("CapitalCase$Parser" ≠ "java/lang/invoke/MethodHandle" ∧ "CapitalCase$Parser" ≠ "java/lang/invoke/VarHandle" ∧ (parseMethodDescriptor "(I)Z").map (fun d => d.parameters.length) = some 1) := ⟨wd_807, wd_114, by decide, by decide, by decide, by decide +kernel⟩
set_option maxRecDepth 100000 in
theorem zk_235 : Cond.code ⟨"CapitalCase$Parser", "parsePart", "(I)Z"⟩ prog_4_method_17_code 4 (some .boolean) ∈ xTB ∧ Cond.initialized "CapitalCase$Parser" ∈ xTB ∧ 4 ≤ 45 ∧ ("CapitalCase$Parser" ≠ "java/lang/invoke/MethodHandle" ∧ "CapitalCase$Parser" ≠ "java/lang/invoke/VarHandle" ∧ (parseMethodDescriptor "(I)Z").map (fun d => d.parameters.length) = some 1) := ⟨wd_811, wd_114, by decide, by decide, by decide, by decide +kernel⟩
set_option maxRecDepth 100000 in
theorem zk_236 : Cond.code ⟨"CapitalCase$Parser", "parseUnit", "(I)Z"⟩ prog_4_method_18_code 3 (some .boolean) ∈ xTB ∧ Cond.initialized "CapitalCase$Parser" ∈ xTB ∧ 3 ≤ 45 ∧ ("CapitalCase$Parser" ≠ "java/lang/invoke/MethodHandle" ∧ "CapitalCase$Parser" ≠ "java/lang/invoke/VarHandle" ∧ (parseMethodDescriptor "(I)Z").map (fun d => d.parameters.length) = some 1) := ⟨wd_815, wd_114, by decide, by decide, by decide, by decide +kernel⟩
set_option maxRecDepth 100000 in
theorem zk_237 : Cond.code ⟨"CapitalCase$Parser", "letterOf", "(II)I"⟩ prog_4_method_13_code 3 (some .int) ∈ xTB ∧ Cond.initialized "CapitalCase$Parser" ∈ xTB ∧ 3 ≤ 45 ∧ ("CapitalCase$Parser" ≠ "java/lang/invoke/MethodHandle" ∧ "CapitalCase$Parser" ≠ "java/lang/invoke/VarHandle" ∧ (parseMethodDescriptor "(II)I").map (fun d => d.parameters.length) = some 2) := ⟨wd_791, wd_114, by decide, by decide, by decide, by decide +kernel⟩
set_option maxRecDepth 100000 in
theorem zk_238 : Cond.code ⟨"CapitalCase$Parser", "areLetters", "(I)Z"⟩ prog_4_method_12_code 3 (some .boolean) ∈ xTB ∧ Cond.initialized "CapitalCase$Parser" ∈ xTB ∧ 3 ≤ 45 ∧ ("CapitalCase$Parser" ≠ "java/lang/invoke/MethodHandle" ∧ "CapitalCase$Parser" ≠ "java/lang/invoke/VarHandle" ∧ (parseMethodDescriptor "(I)Z").map (fun d => d.parameters.length) = some 1) := ⟨wd_787, wd_114, by decide, by decide, by decide, by decide +kernel⟩
set_option maxRecDepth 100000 in
theorem zk_239 : Cond.code ⟨"CapitalCase$Tokens", "kindOf", "([BII)I"⟩ prog_9_method_7_code 4 (some .int) ∈ xTB ∧ Cond.initialized "CapitalCase$Tokens" ∈ xTB ∧ 4 ≤ 45 ∧ ("CapitalCase$Tokens" ≠ "java/lang/invoke/MethodHandle" ∧ "CapitalCase$Tokens" ≠ "java/lang/invoke/VarHandle" ∧ (parseMethodDescriptor "([BII)I").map (fun d => d.parameters.length) = some 3) := ⟨wd_641, wd_115, by decide, by decide, by decide, by decide +kernel⟩
set_option maxRecDepth 100000 in
theorem zk_240 : Cond.code ⟨"CapitalCase$Tokens", "wordOrName", "([BII)I"⟩ prog_9_method_8_code 4 (some .int) ∈ xTB ∧ Cond.initialized "CapitalCase$Tokens" ∈ xTB ∧ 4 ≤ 45 ∧ ("CapitalCase$Tokens" ≠ "java/lang/invoke/MethodHandle" ∧ "CapitalCase$Tokens" ≠ "java/lang/invoke/VarHandle" ∧ (parseMethodDescriptor "([BII)I").map (fun d => d.parameters.length) = some 3) := ⟨wd_644, wd_115, by decide, by decide, by decide, by decide +kernel⟩
set_option maxRecDepth 100000 in
theorem zk_241 : Cond.code ⟨"CapitalCase$Tokens", "isWord", "(I[BII)Z"⟩ prog_9_method_9_code 6 (some .boolean) ∈ xTB ∧ Cond.initialized "CapitalCase$Tokens" ∈ xTB ∧ 6 ≤ 45 ∧ ("CapitalCase$Tokens" ≠ "java/lang/invoke/MethodHandle" ∧ "CapitalCase$Tokens" ≠ "java/lang/invoke/VarHandle" ∧ (parseMethodDescriptor "(I[BII)Z").map (fun d => d.parameters.length) = some 4) := ⟨wd_647, wd_115, by decide, by decide, by decide, by decide +kernel⟩
set_option maxRecDepth 100000 in
theorem zk_242 : Cond.code ⟨"CapitalCase$Tokens", "sizeAt", "([BII)I"⟩ prog_9_method_6_code 5 (some .int) ∈ xTB ∧ Cond.initialized "CapitalCase$Tokens" ∈ xTB ∧ 5 ≤ 45 ∧ ("CapitalCase$Tokens" ≠ "java/lang/invoke/MethodHandle" ∧ "CapitalCase$Tokens" ≠ "java/lang/invoke/VarHandle" ∧ (parseMethodDescriptor "([BII)I").map (fun d => d.parameters.length) = some 3) := ⟨wd_632, wd_115, by decide, by decide, by decide, by decide +kernel⟩
set_option maxRecDepth 100000 in
theorem zk_243 : Cond.code ⟨"CapitalCase$Judge", "reckon", "(III)I"⟩ prog_3_method_9_code 3 (some .int) ∈ xTB ∧ Cond.initialized "CapitalCase$Judge" ∈ xTB ∧ 3 ≤ 45 ∧ ("CapitalCase$Judge" ≠ "java/lang/invoke/MethodHandle" ∧ "CapitalCase$Judge" ≠ "java/lang/invoke/VarHandle" ∧ (parseMethodDescriptor "(III)I").map (fun d => d.parameters.length) = some 3) := ⟨wd_888, wd_119, by decide, by decide, by decide, by decide +kernel⟩
set_option maxRecDepth 100000 in
theorem zk_211 : Cond.code ⟨"CapitalCaseModel", "byteAt", "(I)I"⟩ prog_14_method_6_code 2 (some .int) ∈ xTB ∧ Cond.initialized "CapitalCaseModel" ∈ xTB ∧ 2 ≤ 45 ∧ ("CapitalCaseModel" ≠ "java/lang/invoke/MethodHandle" ∧ "CapitalCaseModel" ≠ "java/lang/invoke/VarHandle" ∧ (parseMethodDescriptor "(I)I").map (fun d => d.parameters.length) = some 1) := ⟨wd_1516, wd_124, by decide, by decide, by decide, by decide +kernel⟩
theorem zl_0 : xCal PZ 0 ⟨"CapitalCase$History", "keep", "(LCapitalCase$Town;)V"⟩ prog_2_method_2_code 3 none 1 := ⟨rfl, zk_0⟩
theorem zl_1 : xCal PZ 1 ⟨"CapitalCase$History", "takeBack", "(LCapitalCase$Town;)Z"⟩ prog_2_method_3_code 4 (some .boolean) 1 := ⟨rfl, zk_1⟩
theorem zl_2 : xCal PZ 2 ⟨"CapitalCase$Judge", "givesLeave", "(LCapitalCase$Town;III)Z"⟩ prog_3_method_2_code 5 (some .boolean) 4 := ⟨rfl, zk_2⟩
theorem zl_3 : xCal PZ 3 ⟨"CapitalCase$Judge", "judge", "(I)I"⟩ prog_3_method_8_code 6 (some .int) 1 := ⟨rfl, zk_3⟩
theorem zl_4 : xCal PZ 4 ⟨"CapitalCase$Judge", "lookAtHouse", "(LCapitalCase$Town;II)V"⟩ prog_3_method_7_code 5 none 3 := ⟨rfl, zk_4⟩
theorem zl_5 : xCal PZ 5 ⟨"CapitalCase$Judge", "lookAtVerse", "(I)V"⟩ prog_3_method_6_code 2 none 1 := ⟨rfl, zk_5⟩
theorem zl_6 : xCal PZ 6 ⟨"CapitalCase$Judge", "pays", "(II)I"⟩ prog_3_method_5_code 3 (some .int) 2 := ⟨rfl, zk_6⟩
theorem zl_7 : xCal PZ 7 ⟨"CapitalCase$Judge", "rank", "(LCapitalCase$Town;III)I"⟩ prog_3_method_3_code 5 (some .int) 4 := ⟨rfl, zk_7⟩
theorem zl_8 : xCal PZ 8 ⟨"CapitalCase$Judge", "wears", "(LCapitalCase$Town;II)I"⟩ prog_3_method_4_code 4 (some .int) 3 := ⟨rfl, zk_8⟩
theorem zl_9 : xCal PZ 9 ⟨"CapitalCase$Parser", "accept", "(I)Z"⟩ prog_4_method_5_code 2 (some .boolean) 1 := ⟨rfl, zk_9⟩
theorem zl_10 : xCal PZ 10 ⟨"CapitalCase$Parser", "fail", "(I)Z"⟩ prog_4_method_4_code 2 (some .boolean) 1 := ⟨rfl, zk_10⟩
theorem zl_11 : xCal PZ 11 ⟨"CapitalCase$Parser", "intOf", "(III)I"⟩ prog_4_method_14_code 6 (some .int) 3 := ⟨rfl, zk_11⟩
theorem zl_12 : xCal PZ 12 ⟨"CapitalCase$Parser", "isSame", "(II)Z"⟩ prog_4_method_11_code 4 (some .boolean) 2 := ⟨rfl, zk_12⟩
theorem zl_13 : xCal PZ 13 ⟨"CapitalCase$Parser", "next", "()I"⟩ prog_4_method_3_code 1 (some .int) 0 := ⟨rfl, zk_13⟩
theorem zl_14 : xCal PZ 14 ⟨"CapitalCase$Parser", "noteLater", "(ZII)V"⟩ prog_4_method_6_code 4 none 3 := ⟨rfl, zk_14⟩
theorem zl_15 : xCal PZ 15 ⟨"CapitalCase$Parser", "noteName", "(I)V"⟩ prog_4_method_10_code 3 none 1 := ⟨rfl, zk_15⟩
theorem zl_16 : xCal PZ 16 ⟨"CapitalCase$Parser", "parse", "(I)I"⟩ prog_4_method_2_code 3 (some .int) 1 := ⟨rfl, zk_16⟩
theorem zl_17 : xCal PZ 17 ⟨"CapitalCase$Parser", "parseHouse", "()V"⟩ prog_4_method_7_code 4 none 0 := ⟨rfl, zk_17⟩
theorem zl_18 : xCal PZ 18 ⟨"CapitalCase$Parser", "parseLaw", "(I)V"⟩ prog_4_method_15_code 5 none 1 := ⟨rfl, zk_18⟩
theorem zl_19 : xCal PZ 19 ⟨"CapitalCase$Parser", "parseNumber", "(I)V"⟩ prog_4_method_9_code 3 none 1 := ⟨rfl, zk_19⟩
theorem zl_20 : xCal PZ 20 ⟨"CapitalCase$Parser", "parseVerse", "()V"⟩ prog_4_method_8_code 5 none 0 := ⟨rfl, zk_20⟩
theorem zl_21 : xCal PZ 21 ⟨"CapitalCase$Planner", "giveUp", "(II)V"⟩ prog_5_method_6_code 5 none 2 := ⟨rfl, zk_21⟩
theorem zl_22 : xCal PZ 22 ⟨"CapitalCase$Planner", "keepIfMore", "(II)V"⟩ prog_5_method_10_code 3 none 2 := ⟨rfl, zk_22⟩
theorem zl_23 : xCal PZ 23 ⟨"CapitalCase$Planner", "lastOf", "(I)I"⟩ prog_5_method_11_code 2 (some .int) 1 := ⟨rfl, zk_23⟩
theorem zl_24 : xCal PZ 24 ⟨"CapitalCase$Planner", "orderGivers", "(LCapitalCase$Town;II)V"⟩ prog_5_method_3_code 9 none 3 := ⟨rfl, zk_24⟩
theorem zl_25 : xCal PZ 25 ⟨"CapitalCase$Planner", "pick", "(II)I"⟩ prog_5_method_5_code 7 (some .int) 2 := ⟨rfl, zk_25⟩
theorem zl_26 : xCal PZ 26 ⟨"CapitalCase$Planner", "prepare", "(LCapitalCase$Town;I)V"⟩ prog_5_method_2_code 5 none 2 := ⟨rfl, zk_26⟩
theorem zl_27 : xCal PZ 27 ⟨"CapitalCase$Planner", "search", "()V"⟩ prog_5_method_9_code 6 none 0 := ⟨rfl, zk_27⟩
theorem zl_28 : xCal PZ 28 ⟨"CapitalCase$Planner", "seek", "(LCapitalCase$Town;)V"⟩ prog_5_method_7_code 2 none 1 := ⟨rfl, zk_28⟩
theorem zl_29 : xCal PZ 29 ⟨"CapitalCase$Planner", "seekWithout", "(LCapitalCase$Town;I)V"⟩ prog_5_method_8_code 4 none 2 := ⟨rfl, zk_29⟩
theorem zl_30 : xCal PZ 30 ⟨"CapitalCase$Planner", "take", "(I)Z"⟩ prog_5_method_4_code 5 (some .boolean) 1 := ⟨rfl, zk_30⟩
theorem zl_31 : xCal PZ 31 ⟨"CapitalCase$Press", "daysTillWornOut", "(LCapitalCase$Town;II)I"⟩ prog_6_method_10_code 5 (some .int) 3 := ⟨rfl, zk_31⟩
theorem zl_32 : xCal PZ 32 ⟨"CapitalCase$Press", "lot", "(III)I"⟩ prog_6_method_8_code 4 (some .int) 3 := ⟨rfl, zk_32⟩
theorem zl_33 : xCal PZ 33 ⟨"CapitalCase$Press", "lot", "(III)I"⟩ prog_6_method_8_code 4 (some .int) 3 := ⟨rfl, zk_32⟩
theorem zl_34 : xCal PZ 34 ⟨"CapitalCase$Press", "mix", "(II)I"⟩ prog_6_method_9_code 3 (some .int) 2 := ⟨rfl, zk_33⟩
theorem zl_35 : xCal PZ 35 ⟨"CapitalCase$Press", "owed", "(LCapitalCase$Town;)I"⟩ prog_6_method_3_code 4 (some .int) 1 := ⟨rfl, zk_34⟩
theorem zl_36 : xCal PZ 36 ⟨"CapitalCase$Press", "passDays", "(LCapitalCase$Town;II)V"⟩ prog_6_method_2_code 5 none 3 := ⟨rfl, zk_35⟩
theorem zl_37 : xCal PZ 37 ⟨"CapitalCase$Press", "steal", "(LCapitalCase$Town;I)V"⟩ prog_6_method_7_code 6 none 2 := ⟨rfl, zk_36⟩
theorem zl_38 : xCal PZ 38 ⟨"CapitalCase$Press", "thievesCome", "(II)Z"⟩ prog_6_method_6_code 3 (some .boolean) 2 := ⟨rfl, zk_37⟩
theorem zl_39 : xCal PZ 39 ⟨"CapitalCase$Press", "wear", "(LCapitalCase$Town;II)Z"⟩ prog_6_method_5_code 6 (some .boolean) 3 := ⟨rfl, zk_38⟩
theorem zl_40 : xCal PZ 40 ⟨"CapitalCase$Press", "work", "(LCapitalCase$Town;)V"⟩ prog_6_method_4_code 4 none 1 := ⟨rfl, zk_39⟩
theorem zl_41 : xCal PZ 41 ⟨"CapitalCase$Prints", "left", "(LCapitalCase$Town;II)I"⟩ prog_7_method_3_code 8 (some .int) 3 := ⟨rfl, zk_40⟩
theorem zl_42 : xCal PZ 42 ⟨"CapitalCase$Prints", "letterToAsk", "(LCapitalCase$Town;II)I"⟩ prog_7_method_4_code 9 (some .int) 3 := ⟨rfl, zk_41⟩
theorem zl_43 : xCal PZ 43 ⟨"CapitalCase$Prints", "note", "(IIZ)I"⟩ prog_7_method_2_code 4 (some .int) 3 := ⟨rfl, zk_42⟩
theorem zl_44 : xCal PZ 44 ⟨"CapitalCase$Script", "add", "(II)V"⟩ prog_8_method_4_code 3 none 2 := ⟨rfl, zk_43⟩
theorem zl_45 : xCal PZ 45 ⟨"CapitalCase$Script", "add", "(II)V"⟩ prog_8_method_4_code 3 none 2 := ⟨rfl, zk_43⟩
theorem zl_46 : xCal PZ 46 ⟨"CapitalCase$Script", "add", "(II)V"⟩ prog_8_method_4_code 3 none 2 := ⟨rfl, zk_43⟩
theorem zl_47 : xCal PZ 47 ⟨"CapitalCase$Script", "become", "(LCapitalCase$Script;)V"⟩ prog_8_method_6_code 2 none 1 := ⟨rfl, zk_44⟩
theorem zl_48 : xCal PZ 48 ⟨"CapitalCase$Script", "layDown", "(III)V"⟩ prog_8_method_3_code 4 none 3 := ⟨rfl, zk_45⟩
theorem zl_49 : xCal PZ 49 ⟨"CapitalCase$Script", "layDown", "(III)V"⟩ prog_8_method_3_code 4 none 3 := ⟨rfl, zk_45⟩
theorem zl_50 : xCal PZ 50 ⟨"CapitalCase$Script", "lettersOf", "(I)I"⟩ prog_8_method_7_code 4 (some .int) 1 := ⟨rfl, zk_46⟩
theorem zl_51 : xCal PZ 51 ⟨"CapitalCase$Script", "wipe", "()V"⟩ prog_8_method_2_code 1 none 0 := ⟨rfl, zk_47⟩
theorem zl_52 : xCal PZ 52 ⟨"CapitalCase$Tokens", "scan", "([BI)V"⟩ prog_9_method_2_code 5 none 2 := ⟨rfl, zk_48⟩
theorem zl_53 : xCal PZ 53 ⟨"CapitalCase$Town", "become", "(LCapitalCase$Town;)V"⟩ prog_10_method_3_code 2 none 1 := ⟨rfl, zk_49⟩
theorem zl_54 : xCal PZ 54 ⟨"CapitalCase$Town", "begin", "(LCapitalCase$Script;)V"⟩ prog_10_method_2_code 2 none 1 := ⟨rfl, zk_50⟩
theorem zl_55 : xCal PZ 55 ⟨"CapitalCase$Town", "free", "(I)I"⟩ prog_10_method_4_code 2 (some .int) 1 := ⟨rfl, zk_51⟩
theorem zl_56 : xCal PZ 56 ⟨"CapitalCase$Town", "lay", "(LCapitalCase$Script;I[I)V"⟩ prog_10_method_8_code 6 none 3 := ⟨rfl, zk_52⟩
theorem zl_57 : xCal PZ 57 ⟨"CapitalCase$Town", "lentBy", "(II)I"⟩ prog_10_method_5_code 5 (some .int) 2 := ⟨rfl, zk_53⟩
theorem zl_58 : xCal PZ 58 ⟨"CapitalCase$Town", "lentTo", "(II)I"⟩ prog_10_method_6_code 5 (some .int) 2 := ⟨rfl, zk_54⟩
theorem zl_59 : xCal PZ 59 ⟨"CapitalCase$Town", "lift", "(LCapitalCase$Script;I)V"⟩ prog_10_method_9_code 5 none 2 := ⟨rfl, zk_55⟩
theorem zl_60 : xCal PZ 60 ⟨"CapitalCase$Town", "lose", "(I)Z"⟩ prog_10_method_11_code 2 (some .boolean) 1 := ⟨rfl, zk_56⟩
theorem zl_61 : xCal PZ 61 ⟨"CapitalCase$Town", "move", "(III)V"⟩ prog_10_method_10_code 4 none 3 := ⟨rfl, zk_57⟩
theorem zl_62 : xCal PZ 62 ⟨"CapitalCase$Town", "open", "(I)I"⟩ prog_10_method_7_code 2 (some .int) 1 := ⟨rfl, zk_58⟩
theorem zl_63 : xCal PZ 63 ⟨"CapitalCase$Trade", "freeElsewhere", "(LCapitalCase$Town;II)I"⟩ prog_11_method_3_code 6 (some .int) 3 := ⟨rfl, zk_59⟩
theorem zl_64 : xCal PZ 64 ⟨"CapitalCase$Trade", "gains", "(LCapitalCase$Town;III)Z"⟩ prog_11_method_6_code 5 (some .boolean) 4 := ⟨rfl, zk_60⟩
theorem zl_65 : xCal PZ 65 ⟨"CapitalCase$Trade", "loansFor", "(LCapitalCase$Town;II)I"⟩ prog_11_method_2_code 9 (some .int) 3 := ⟨rfl, zk_61⟩
theorem zl_66 : xCal PZ 66 ⟨"CapitalCase$Trade", "seekBargains", "(LCapitalCase$Town;)V"⟩ prog_11_method_4_code 4 none 1 := ⟨rfl, zk_62⟩
theorem zl_67 : xCal PZ 67 ⟨"CapitalCase$Trade", "seekBetween", "(LCapitalCase$Town;II)V"⟩ prog_11_method_5_code 6 none 3 := ⟨rfl, zk_63⟩
theorem zl_68 : xCal PZ 68 ⟨"CapitalCase$Trade", "versesAlone", "(LCapitalCase$Town;III)I"⟩ prog_11_method_7_code 12 (some .int) 4 := ⟨rfl, zk_64⟩
theorem zl_69 : xCal PZ 69 ⟨"CapitalCase$TwoDays", "giveUpAll", "(I)V"⟩ prog_12_method_5_code 3 none 1 := ⟨rfl, zk_65⟩
theorem zl_70 : xCal PZ 70 ⟨"CapitalCase$TwoDays", "passFirst", "(LCapitalCase$Town;I)V"⟩ prog_12_method_6_code 4 none 2 := ⟨rfl, zk_66⟩
theorem zl_71 : xCal PZ 71 ⟨"CapitalCase$TwoDays", "seek", "(LCapitalCase$Town;)V"⟩ prog_12_method_2_code 6 none 1 := ⟨rfl, zk_67⟩
theorem zl_72 : xCal PZ 72 ⟨"CapitalCase$TwoDays", "takeAll", "(I)Z"⟩ prog_12_method_4_code 3 (some .boolean) 1 := ⟨rfl, zk_68⟩
theorem zl_73 : xCal PZ 73 ⟨"CapitalCase$TwoDays", "total", "([II)I"⟩ prog_12_method_3_code 5 (some .int) 2 := ⟨rfl, zk_69⟩
theorem zl_74 : xCal PZ 74 ⟨"CapitalCase$TwoDays", "total", "([II)I"⟩ prog_12_method_3_code 5 (some .int) 2 := ⟨rfl, zk_69⟩
theorem zl_75 : xCal PZ 75 ⟨"CapitalCase", "append", "(I)V"⟩ prog_1_method_3_code 3 none 1 := ⟨rfl, zk_70⟩
theorem zl_76 : xCal PZ 76 ⟨"CapitalCase", "ask", "(II)I"⟩ prog_1_method_41_code 3 (some .int) 2 := ⟨rfl, zk_71⟩
theorem zl_77 : xCal PZ 77 ⟨"CapitalCase", "back", "(I)I"⟩ prog_1_method_4_code 2 (some .int) 1 := ⟨rfl, zk_72⟩
theorem zl_78 : xCal PZ 78 ⟨"CapitalCase", "bargains", "(I)I"⟩ prog_1_method_30_code 2 (some .int) 1 := ⟨rfl, zk_73⟩
theorem zl_79 : xCal PZ 79 ⟨"CapitalCase", "beginAnew", "()V"⟩ prog_1_method_6_code 2 none 0 := ⟨rfl, zk_74⟩
theorem zl_80 : xCal PZ 80 ⟨"CapitalCase", "best", "(I)I"⟩ prog_1_method_25_code 2 (some .int) 1 := ⟨rfl, zk_75⟩
theorem zl_81 : xCal PZ 81 ⟨"CapitalCase", "clash", "(I)I"⟩ prog_1_method_32_code 2 (some .int) 1 := ⟨rfl, zk_76⟩
theorem zl_82 : xCal PZ 82 ⟨"CapitalCase", "clear", "(I)Z"⟩ prog_1_method_19_code 2 (some .boolean) 1 := ⟨rfl, zk_77⟩
theorem zl_83 : xCal PZ 83 ⟨"CapitalCase", "couldBeSet", "(I)Z"⟩ prog_1_method_18_code 2 (some .boolean) 1 := ⟨rfl, zk_78⟩
theorem zl_84 : xCal PZ 84 ⟨"CapitalCase", "count", "(I)I"⟩ prog_1_method_44_code 2 (some .int) 1 := ⟨rfl, zk_79⟩
theorem zl_85 : xCal PZ 85 ⟨"CapitalCase", "days", "(I)I"⟩ prog_1_method_22_code 2 (some .int) 1 := ⟨rfl, zk_80⟩
theorem zl_86 : xCal PZ 86 ⟨"CapitalCase", "feed", "(IIIII)I"⟩ prog_1_method_2_code 6 (some .int) 5 := ⟨rfl, zk_81⟩
theorem zl_87 : xCal PZ 87 ⟨"CapitalCase", "forget", "()I"⟩ prog_1_method_39_code 2 (some .int) 0 := ⟨rfl, zk_82⟩
theorem zl_88 : xCal PZ 88 ⟨"CapitalCase", "from", "(II)I"⟩ prog_1_method_24_code 3 (some .int) 2 := ⟨rfl, zk_83⟩
theorem zl_89 : xCal PZ 89 ⟨"CapitalCase", "giveBack", "(III)Z"⟩ prog_1_method_21_code 5 (some .boolean) 3 := ⟨rfl, zk_84⟩
theorem zl_90 : xCal PZ 90 ⟨"CapitalCase", "heldSlots", "()I"⟩ prog_1_method_46_code 3 (some .int) 0 := ⟨rfl, zk_85⟩
theorem zl_91 : xCal PZ 91 ⟨"CapitalCase", "hold", "(I)Z"⟩ prog_1_method_42_code 2 (some .boolean) 1 := ⟨rfl, zk_86⟩
theorem zl_92 : xCal PZ 92 ⟨"CapitalCase", "house", "(III)I"⟩ prog_1_method_12_code 5 (some .int) 3 := ⟨rfl, zk_87⟩
theorem zl_93 : xCal PZ 93 ⟨"CapitalCase", "isCell", "(II)Z"⟩ prog_1_method_9_code 3 (some .boolean) 2 := ⟨rfl, zk_88⟩
theorem zl_94 : xCal PZ 94 ⟨"CapitalCase", "isHouse", "(I)Z"⟩ prog_1_method_8_code 2 (some .boolean) 1 := ⟨rfl, zk_89⟩
theorem zl_95 : xCal PZ 95 ⟨"CapitalCase", "isOpen", "(I)Z"⟩ prog_1_method_11_code 2 (some .boolean) 1 := ⟨rfl, zk_90⟩
theorem zl_96 : xCal PZ 96 ⟨"CapitalCase", "isVerse", "(I)Z"⟩ prog_1_method_10_code 2 (some .boolean) 1 := ⟨rfl, zk_91⟩
theorem zl_97 : xCal PZ 97 ⟨"CapitalCase", "late", "()I"⟩ prog_1_method_33_code 3 (some .int) 0 := ⟨rfl, zk_92⟩
theorem zl_98 : xCal PZ 98 ⟨"CapitalCase", "lend", "(III)Z"⟩ prog_1_method_20_code 4 (some .boolean) 3 := ⟨rfl, zk_93⟩
theorem zl_99 : xCal PZ 99 ⟨"CapitalCase", "loans", "(II)I"⟩ prog_1_method_29_code 3 (some .int) 2 := ⟨rfl, zk_94⟩
theorem zl_100 : xCal PZ 100 ⟨"CapitalCase", "paidIn", "(I)I"⟩ prog_1_method_36_code 2 (some .int) 1 := ⟨rfl, zk_95⟩
theorem zl_101 : xCal PZ 101 ⟨"CapitalCase", "pillar", "(I)I"⟩ prog_1_method_27_code 5 (some .int) 1 := ⟨rfl, zk_96⟩
theorem zl_102 : xCal PZ 102 ⟨"CapitalCase", "place", "()I"⟩ prog_1_method_7_code 1 (some .int) 0 := ⟨rfl, zk_97⟩
theorem zl_103 : xCal PZ 103 ⟨"CapitalCase", "read", "()I"⟩ prog_1_method_5_code 2 (some .int) 0 := ⟨rfl, zk_98⟩
theorem zl_104 : xCal PZ 104 ⟨"CapitalCase", "restore", "(I)Z"⟩ prog_1_method_43_code 2 (some .boolean) 1 := ⟨rfl, zk_99⟩
theorem zl_105 : xCal PZ 105 ⟨"CapitalCase", "set", "(I)Z"⟩ prog_1_method_17_code 2 (some .boolean) 1 := ⟨rfl, zk_100⟩
theorem zl_106 : xCal PZ 106 ⟨"CapitalCase", "settable", "()I"⟩ prog_1_method_47_code 3 (some .int) 0 := ⟨rfl, zk_101⟩
theorem zl_107 : xCal PZ 107 ⟨"CapitalCase", "standOf", "(I)I"⟩ prog_1_method_14_code 4 (some .int) 1 := ⟨rfl, zk_102⟩
theorem zl_108 : xCal PZ 108 ⟨"CapitalCase", "strike", "(I)I"⟩ prog_1_method_31_code 4 (some .int) 1 := ⟨rfl, zk_103⟩
theorem zl_109 : xCal PZ 109 ⟨"CapitalCase", "sum", "([I)I"⟩ prog_1_method_45_code 6 (some .int) 1 := ⟨rfl, zk_104⟩
theorem zl_110 : xCal PZ 110 ⟨"CapitalCase", "sum", "([I)I"⟩ prog_1_method_45_code 6 (some .int) 1 := ⟨rfl, zk_104⟩
theorem zl_111 : xCal PZ 111 ⟨"CapitalCase", "sum", "([I)I"⟩ prog_1_method_45_code 6 (some .int) 1 := ⟨rfl, zk_104⟩
theorem zl_112 : xCal PZ 112 ⟨"CapitalCase", "tell", "(IIZ)I"⟩ prog_1_method_38_code 4 (some .int) 3 := ⟨rfl, zk_105⟩
theorem zl_113 : xCal PZ 113 ⟨"CapitalCase", "tells", "(IIII)I"⟩ prog_1_method_16_code 5 (some .int) 4 := ⟨rfl, zk_106⟩
theorem zl_114 : xCal PZ 114 ⟨"CapitalCase", "then", "(IIII)I"⟩ prog_1_method_35_code 6 (some .int) 4 := ⟨rfl, zk_107⟩
theorem zl_115 : xCal PZ 115 ⟨"CapitalCase", "twoDays", "(I)I"⟩ prog_1_method_28_code 2 (some .int) 1 := ⟨rfl, zk_108⟩
theorem zl_116 : xCal PZ 116 ⟨"CapitalCase", "undo", "()Z"⟩ prog_1_method_23_code 1 (some .boolean) 0 := ⟨rfl, zk_109⟩
theorem zl_117 : xCal PZ 117 ⟨"CapitalCase", "verse", "(II)I"⟩ prog_1_method_13_code 3 (some .int) 2 := ⟨rfl, zk_110⟩
theorem zl_118 : xCal PZ 118 ⟨"CapitalCase", "wants", "(II)I"⟩ prog_1_method_15_code 3 (some .int) 2 := ⟨rfl, zk_111⟩
theorem zl_119 : xCal PZ 119 ⟨"CapitalCase", "whose", "(II)I"⟩ prog_1_method_40_code 4 (some .int) 2 := ⟨rfl, zk_112⟩
theorem zl_120 : xCal PZ 120 ⟨"CapitalCase", "wornOut", "(II)I"⟩ prog_1_method_34_code 3 (some .int) 2 := ⟨rfl, zk_113⟩
theorem zl_121 : xCal PZ 121 ⟨"CapitalCase", "worth", "(II)I"⟩ prog_1_method_26_code 4 (some .int) 2 := ⟨rfl, zk_114⟩
theorem zl_122 : xCal PZ 122 ⟨"CapitalCase", "year", "(IIII)I"⟩ prog_1_method_37_code 7 (some .int) 4 := ⟨rfl, zk_115⟩
theorem zl_123 : xCal PZ 123 ⟨"CapitalCaseModel", "areThieves", "()Z"⟩ prog_14_method_51_code 1 (some .boolean) 0 := ⟨rfl, zk_116⟩
theorem zl_124 : xCal PZ 124 ⟨"CapitalCaseModel", "areTwo", "(III)Z"⟩ prog_14_method_79_code 4 (some .boolean) 3 := ⟨rfl, zk_117⟩
theorem zl_125 : xCal PZ 125 ⟨"CapitalCaseModel", "ask", "(II)I"⟩ prog_14_method_110_code 9 (some .int) 2 := ⟨rfl, zk_118⟩
theorem zl_126 : xCal PZ 126 ⟨"CapitalCaseModel", "back", "(I)I"⟩ prog_14_method_5_code 2 (some .int) 1 := ⟨rfl, zk_119⟩
theorem zl_127 : xCal PZ 127 ⟨"CapitalCaseModel", "bargains", "(I)I"⟩ prog_14_method_97_code 7 (some .int) 1 := ⟨rfl, zk_120⟩
theorem zl_128 : xCal PZ 128 ⟨"CapitalCaseModel", "begins", "()V"⟩ prog_14_method_46_code 2 none 0 := ⟨rfl, zk_121⟩
theorem zl_129 : xCal PZ 129 ⟨"CapitalCaseModel", "best", "(I)I"⟩ prog_14_method_88_code 2 (some .int) 1 := ⟨rfl, zk_122⟩
theorem zl_130 : xCal PZ 130 ⟨"CapitalCaseModel", "bits", "(I)I"⟩ prog_14_method_42_code 3 (some .int) 1 := ⟨rfl, zk_123⟩
theorem zl_131 : xCal PZ 131 ⟨"CapitalCaseModel", "bounded", "(II)I"⟩ prog_14_method_27_code 4 (some .int) 2 := ⟨rfl, zk_124⟩
theorem zl_132 : xCal PZ 132 ⟨"CapitalCaseModel", "canSet", "(I)Z"⟩ prog_14_method_86_code 3 (some .boolean) 1 := ⟨rfl, zk_125⟩
theorem zl_133 : xCal PZ 133 ⟨"CapitalCaseModel", "clash", "(I)I"⟩ prog_14_method_99_code 6 (some .int) 1 := ⟨rfl, zk_126⟩
theorem zl_134 : xCal PZ 134 ⟨"CapitalCaseModel", "clear", "(I)Z"⟩ prog_14_method_78_code 2 (some .boolean) 1 := ⟨rfl, zk_127⟩
theorem zl_135 : xCal PZ 135 ⟨"CapitalCaseModel", "clears", "(I)V"⟩ prog_14_method_64_code 3 none 1 := ⟨rfl, zk_128⟩
theorem zl_136 : xCal PZ 136 ⟨"CapitalCaseModel", "copies", "()V"⟩ prog_14_method_48_code 2 none 0 := ⟨rfl, zk_129⟩
theorem zl_137 : xCal PZ 137 ⟨"CapitalCaseModel", "count", "(I)I"⟩ prog_14_method_115_code 5 (some .int) 1 := ⟨rfl, zk_130⟩
theorem zl_138 : xCal PZ 138 ⟨"CapitalCaseModel", "dayGoes", "()V"⟩ prog_14_method_70_code 2 none 0 := ⟨rfl, zk_131⟩
theorem zl_139 : xCal PZ 139 ⟨"CapitalCaseModel", "days", "(I)I"⟩ prog_14_method_82_code 2 (some .int) 1 := ⟨rfl, zk_132⟩
theorem zl_140 : xCal PZ 140 ⟨"CapitalCaseModel", "fail", "(I)V"⟩ prog_14_method_15_code 2 none 1 := ⟨rfl, zk_133⟩
theorem zl_141 : xCal PZ 141 ⟨"CapitalCaseModel", "feed", "(IIIII)I"⟩ prog_14_method_3_code 6 (some .int) 5 := ⟨rfl, zk_134⟩
theorem zl_142 : xCal PZ 142 ⟨"CapitalCaseModel", "findsBest", "()V"⟩ prog_14_method_87_code 5 none 0 := ⟨rfl, zk_135⟩
theorem zl_143 : xCal PZ 143 ⟨"CapitalCaseModel", "firstDay", "(I)I"⟩ prog_14_method_91_code 3 (some .int) 1 := ⟨rfl, zk_136⟩
theorem zl_144 : xCal PZ 144 ⟨"CapitalCaseModel", "forget", "()I"⟩ prog_14_method_107_code 2 (some .int) 0 := ⟨rfl, zk_137⟩
theorem zl_145 : xCal PZ 145 ⟨"CapitalCaseModel", "freeOf", "(II)I"⟩ prog_14_method_54_code 4 (some .int) 2 := ⟨rfl, zk_138⟩
theorem zl_146 : xCal PZ 146 ⟨"CapitalCaseModel", "from", "(II)I"⟩ prog_14_method_84_code 3 (some .int) 2 := ⟨rfl, zk_139⟩
theorem zl_147 : xCal PZ 147 ⟨"CapitalCaseModel", "giveBack", "(III)Z"⟩ prog_14_method_81_code 5 (some .boolean) 3 := ⟨rfl, zk_140⟩
theorem zl_148 : xCal PZ 148 ⟨"CapitalCaseModel", "giverOf", "(II)I"⟩ prog_14_method_63_code 7 (some .int) 2 := ⟨rfl, zk_141⟩
theorem zl_149 : xCal PZ 149 ⟨"CapitalCaseModel", "givesLeave", "(III)Z"⟩ prog_14_method_59_code 4 (some .boolean) 3 := ⟨rfl, zk_142⟩
theorem zl_150 : xCal PZ 150 ⟨"CapitalCaseModel", "goes", "(I)V"⟩ prog_14_method_71_code 3 none 1 := ⟨rfl, zk_143⟩
theorem zl_151 : xCal PZ 151 ⟨"CapitalCaseModel", "goesOn", "()V"⟩ prog_14_method_17_code 1 none 0 := ⟨rfl, zk_144⟩
theorem zl_152 : xCal PZ 152 ⟨"CapitalCaseModel", "held", "(III)I"⟩ prog_14_method_41_code 3 (some .int) 3 := ⟨rfl, zk_145⟩
theorem zl_153 : xCal PZ 153 ⟨"CapitalCaseModel", "hold", "(I)Z"⟩ prog_14_method_111_code 3 (some .boolean) 1 := ⟨rfl, zk_146⟩
theorem zl_154 : xCal PZ 154 ⟨"CapitalCaseModel", "house", "(III)I"⟩ prog_14_method_72_code 5 (some .int) 3 := ⟨rfl, zk_147⟩
theorem zl_155 : xCal PZ 155 ⟨"CapitalCaseModel", "in", "(III)Z"⟩ prog_14_method_40_code 3 (some .boolean) 3 := ⟨rfl, zk_148⟩
theorem zl_156 : xCal PZ 156 ⟨"CapitalCaseModel", "in", "(III)Z"⟩ prog_14_method_40_code 3 (some .boolean) 3 := ⟨rfl, zk_148⟩
theorem zl_157 : xCal PZ 157 ⟨"CapitalCaseModel", "in", "(III)Z"⟩ prog_14_method_40_code 3 (some .boolean) 3 := ⟨rfl, zk_148⟩
theorem zl_158 : xCal PZ 158 ⟨"CapitalCaseModel", "in", "(III)Z"⟩ prog_14_method_40_code 3 (some .boolean) 3 := ⟨rfl, zk_148⟩
theorem zl_159 : xCal PZ 159 ⟨"CapitalCaseModel", "in", "(III)Z"⟩ prog_14_method_40_code 3 (some .boolean) 3 := ⟨rfl, zk_148⟩
theorem zl_160 : xCal PZ 160 ⟨"CapitalCaseModel", "in", "(III)Z"⟩ prog_14_method_40_code 3 (some .boolean) 3 := ⟨rfl, zk_148⟩
theorem zl_161 : xCal PZ 161 ⟨"CapitalCaseModel", "in", "(III)Z"⟩ prog_14_method_40_code 3 (some .boolean) 3 := ⟨rfl, zk_148⟩
theorem zl_162 : xCal PZ 162 ⟨"CapitalCaseModel", "in", "(III)Z"⟩ prog_14_method_40_code 3 (some .boolean) 3 := ⟨rfl, zk_148⟩
theorem zl_163 : xCal PZ 163 ⟨"CapitalCaseModel", "in", "(III)Z"⟩ prog_14_method_40_code 3 (some .boolean) 3 := ⟨rfl, zk_148⟩
theorem zl_164 : xCal PZ 164 ⟨"CapitalCaseModel", "in", "(III)Z"⟩ prog_14_method_40_code 3 (some .boolean) 3 := ⟨rfl, zk_148⟩
theorem zl_165 : xCal PZ 165 ⟨"CapitalCaseModel", "in", "(III)Z"⟩ prog_14_method_40_code 3 (some .boolean) 3 := ⟨rfl, zk_148⟩
theorem zl_166 : xCal PZ 166 ⟨"CapitalCaseModel", "in", "(III)Z"⟩ prog_14_method_40_code 3 (some .boolean) 3 := ⟨rfl, zk_148⟩
theorem zl_167 : xCal PZ 167 ⟨"CapitalCaseModel", "in", "(III)Z"⟩ prog_14_method_40_code 3 (some .boolean) 3 := ⟨rfl, zk_148⟩
theorem zl_168 : xCal PZ 168 ⟨"CapitalCaseModel", "in", "(III)Z"⟩ prog_14_method_40_code 3 (some .boolean) 3 := ⟨rfl, zk_148⟩
theorem zl_169 : xCal PZ 169 ⟨"CapitalCaseModel", "in", "(III)Z"⟩ prog_14_method_40_code 3 (some .boolean) 3 := ⟨rfl, zk_148⟩
theorem zl_170 : xCal PZ 170 ⟨"CapitalCaseModel", "in", "(III)Z"⟩ prog_14_method_40_code 3 (some .boolean) 3 := ⟨rfl, zk_148⟩
theorem zl_171 : xCal PZ 171 ⟨"CapitalCaseModel", "in", "(III)Z"⟩ prog_14_method_40_code 3 (some .boolean) 3 := ⟨rfl, zk_148⟩
theorem zl_172 : xCal PZ 172 ⟨"CapitalCaseModel", "in", "(III)Z"⟩ prog_14_method_40_code 3 (some .boolean) 3 := ⟨rfl, zk_148⟩
theorem zl_173 : xCal PZ 173 ⟨"CapitalCaseModel", "in", "(III)Z"⟩ prog_14_method_40_code 3 (some .boolean) 3 := ⟨rfl, zk_148⟩
theorem zl_174 : xCal PZ 174 ⟨"CapitalCaseModel", "in", "(III)Z"⟩ prog_14_method_40_code 3 (some .boolean) 3 := ⟨rfl, zk_148⟩
theorem zl_175 : xCal PZ 175 ⟨"CapitalCaseModel", "is", "(I)Z"⟩ prog_14_method_14_code 2 (some .boolean) 1 := ⟨rfl, zk_149⟩
theorem zl_176 : xCal PZ 176 ⟨"CapitalCaseModel", "isBargain", "(IIII)Z"⟩ prog_14_method_96_code 5 (some .boolean) 4 := ⟨rfl, zk_150⟩
theorem zl_177 : xCal PZ 177 ⟨"CapitalCaseModel", "isHouse", "(I)Z"⟩ prog_14_method_43_code 2 (some .boolean) 1 := ⟨rfl, zk_151⟩
theorem zl_178 : xCal PZ 178 ⟨"CapitalCaseModel", "isLong", "(I)Z"⟩ prog_14_method_101_code 1 (some .boolean) 1 := ⟨rfl, zk_152⟩
theorem zl_179 : xCal PZ 179 ⟨"CapitalCaseModel", "isOpen", "(I)Z"⟩ prog_14_method_66_code 2 (some .boolean) 1 := ⟨rfl, zk_153⟩
theorem zl_180 : xCal PZ 180 ⟨"CapitalCaseModel", "isSort", "(I)Z"⟩ prog_14_method_44_code 1 (some .boolean) 1 := ⟨rfl, zk_154⟩
theorem zl_181 : xCal PZ 181 ⟨"CapitalCaseModel", "isVerse", "(I)Z"⟩ prog_14_method_45_code 2 (some .boolean) 1 := ⟨rfl, zk_155⟩
theorem zl_182 : xCal PZ 182 ⟨"CapitalCaseModel", "keepsAhead", "()V"⟩ prog_14_method_85_code 2 none 0 := ⟨rfl, zk_156⟩
theorem zl_183 : xCal PZ 183 ⟨"CapitalCaseModel", "keepsRow", "()V"⟩ prog_14_method_47_code 2 none 0 := ⟨rfl, zk_157⟩
theorem zl_184 : xCal PZ 184 ⟨"CapitalCaseModel", "late", "()I"⟩ prog_14_method_100_code 3 (some .int) 0 := ⟨rfl, zk_158⟩
theorem zl_185 : xCal PZ 185 ⟨"CapitalCaseModel", "lawTells", "(II)I"⟩ prog_14_method_58_code 7 (some .int) 2 := ⟨rfl, zk_159⟩
theorem zl_186 : xCal PZ 186 ⟨"CapitalCaseModel", "lend", "(III)Z"⟩ prog_14_method_80_code 4 (some .boolean) 3 := ⟨rfl, zk_160⟩
theorem zl_187 : xCal PZ 187 ⟨"CapitalCaseModel", "lentOut", "(II)I"⟩ prog_14_method_52_code 5 (some .int) 2 := ⟨rfl, zk_161⟩
theorem zl_188 : xCal PZ 188 ⟨"CapitalCaseModel", "lentTo", "(II)I"⟩ prog_14_method_53_code 5 (some .int) 2 := ⟨rfl, zk_162⟩
theorem zl_189 : xCal PZ 189 ⟨"CapitalCaseModel", "loans", "(II)I"⟩ prog_14_method_94_code 8 (some .int) 2 := ⟨rfl, zk_163⟩
theorem zl_190 : xCal PZ 190 ⟨"CapitalCaseModel", "looks", "()V"⟩ prog_14_method_55_code 2 none 0 := ⟨rfl, zk_164⟩
theorem zl_191 : xCal PZ 191 ⟨"CapitalCaseModel", "looksAt", "(II)V"⟩ prog_14_method_56_code 3 none 2 := ⟨rfl, zk_165⟩
theorem zl_192 : xCal PZ 192 ⟨"CapitalCaseModel", "looksFor", "(I)V"⟩ prog_14_method_57_code 2 none 1 := ⟨rfl, zk_166⟩
theorem zl_193 : xCal PZ 193 ⟨"CapitalCaseModel", "lotOf", "(II)I"⟩ prog_14_method_50_code 3 (some .int) 2 := ⟨rfl, zk_167⟩
theorem zl_194 : xCal PZ 194 ⟨"CapitalCaseModel", "lotOf", "(II)I"⟩ prog_14_method_50_code 3 (some .int) 2 := ⟨rfl, zk_167⟩
theorem zl_195 : xCal PZ 195 ⟨"CapitalCaseModel", "mixed", "(II)I"⟩ prog_14_method_49_code 3 (some .int) 2 := ⟨rfl, zk_168⟩
theorem zl_196 : xCal PZ 196 ⟨"CapitalCaseModel", "must", "(I)V"⟩ prog_14_method_18_code 2 none 1 := ⟨rfl, zk_169⟩
theorem zl_197 : xCal PZ 197 ⟨"CapitalCaseModel", "named", "()I"⟩ prog_14_method_25_code 3 (some .int) 0 := ⟨rfl, zk_170⟩
theorem zl_198 : xCal PZ 198 ⟨"CapitalCaseModel", "needsOf", "(II)I"⟩ prog_14_method_93_code 5 (some .int) 2 := ⟨rfl, zk_171⟩
theorem zl_199 : xCal PZ 199 ⟨"CapitalCaseModel", "openBits", "()I"⟩ prog_14_method_67_code 3 (some .int) 0 := ⟨rfl, zk_172⟩
theorem zl_200 : xCal PZ 200 ⟨"CapitalCaseModel", "ownVerses", "(III)I"⟩ prog_14_method_95_code 8 (some .int) 3 := ⟨rfl, zk_173⟩
theorem zl_201 : xCal PZ 201 ⟨"CapitalCaseModel", "paidIn", "(I)I"⟩ prog_14_method_104_code 2 (some .int) 1 := ⟨rfl, zk_174⟩
theorem zl_202 : xCal PZ 202 ⟨"CapitalCaseModel", "paysOf", "(I)I"⟩ prog_14_method_62_code 2 (some .int) 1 := ⟨rfl, zk_175⟩
theorem zl_203 : xCal PZ 203 ⟨"CapitalCaseModel", "pillar", "(I)I"⟩ prog_14_method_90_code 5 (some .int) 1 := ⟨rfl, zk_176⟩
theorem zl_204 : xCal PZ 204 ⟨"CapitalCaseModel", "place", "()I"⟩ prog_14_method_21_code 1 (some .int) 0 := ⟨rfl, zk_177⟩
theorem zl_205 : xCal PZ 205 ⟨"CapitalCaseModel", "put", "(I)V"⟩ prog_14_method_4_code 3 none 1 := ⟨rfl, zk_178⟩
theorem zl_206 : xCal PZ 206 ⟨"CapitalCaseModel", "rankOf", "(III)I"⟩ prog_14_method_60_code 4 (some .int) 3 := ⟨rfl, zk_179⟩
theorem zl_207 : xCal PZ 207 ⟨"CapitalCaseModel", "read", "()I"⟩ prog_14_method_20_code 2 (some .int) 0 := ⟨rfl, zk_180⟩
theorem zl_208 : xCal PZ 208 ⟨"CapitalCaseModel", "records", "()V"⟩ prog_14_method_76_code 2 none 0 := ⟨rfl, zk_181⟩
theorem zl_209 : xCal PZ 209 ⟨"CapitalCaseModel", "restore", "(I)Z"⟩ prog_14_method_112_code 3 (some .boolean) 1 := ⟨rfl, zk_182⟩
theorem zl_210 : xCal PZ 210 ⟨"CapitalCaseModel", "roomFor", "(II)V"⟩ prog_14_method_22_code 3 none 2 := ⟨rfl, zk_183⟩
theorem zl_211 : xCal PZ 211 ⟨"CapitalCaseModel", "set", "(I)Z"⟩ prog_14_method_77_code 2 (some .boolean) 1 := ⟨rfl, zk_184⟩
theorem zl_212 : xCal PZ 212 ⟨"CapitalCaseModel", "sets", "(I)Z"⟩ prog_14_method_65_code 5 (some .boolean) 1 := ⟨rfl, zk_185⟩
theorem zl_213 : xCal PZ 213 ⟨"CapitalCaseModel", "strike", "(I)I"⟩ prog_14_method_98_code 5 (some .int) 1 := ⟨rfl, zk_186⟩
theorem zl_214 : xCal PZ 214 ⟨"CapitalCaseModel", "sumNow", "(II)I"⟩ prog_14_method_113_code 5 (some .int) 2 := ⟨rfl, zk_187⟩
theorem zl_215 : xCal PZ 215 ⟨"CapitalCaseModel", "tell", "(IIZ)I"⟩ prog_14_method_106_code 4 (some .int) 3 := ⟨rfl, zk_188⟩
theorem zl_216 : xCal PZ 216 ⟨"CapitalCaseModel", "tells", "(IIII)I"⟩ prog_14_method_75_code 5 (some .int) 4 := ⟨rfl, zk_189⟩
theorem zl_217 : xCal PZ 217 ⟨"CapitalCaseModel", "then", "(IIII)I"⟩ prog_14_method_103_code 5 (some .int) 4 := ⟨rfl, zk_190⟩
theorem zl_218 : xCal PZ 218 ⟨"CapitalCaseModel", "thievesCome", "()V"⟩ prog_14_method_69_code 4 none 0 := ⟨rfl, zk_191⟩
theorem zl_219 : xCal PZ 219 ⟨"CapitalCaseModel", "toldInt", "(II)I"⟩ prog_14_method_23_code 4 (some .int) 2 := ⟨rfl, zk_192⟩
theorem zl_220 : xCal PZ 220 ⟨"CapitalCaseModel", "twoDays", "(I)I"⟩ prog_14_method_92_code 7 (some .int) 1 := ⟨rfl, zk_193⟩
theorem zl_221 : xCal PZ 221 ⟨"CapitalCaseModel", "undo", "()Z"⟩ prog_14_method_83_code 2 (some .boolean) 0 := ⟨rfl, zk_194⟩
theorem zl_222 : xCal PZ 222 ⟨"CapitalCaseModel", "verse", "(II)I"⟩ prog_14_method_73_code 3 (some .int) 2 := ⟨rfl, zk_195⟩
theorem zl_223 : xCal PZ 223 ⟨"CapitalCaseModel", "versesSo", "(II)I"⟩ prog_14_method_114_code 5 (some .int) 2 := ⟨rfl, zk_196⟩
theorem zl_224 : xCal PZ 224 ⟨"CapitalCaseModel", "wants", "(II)I"⟩ prog_14_method_74_code 3 (some .int) 2 := ⟨rfl, zk_197⟩
theorem zl_225 : xCal PZ 225 ⟨"CapitalCaseModel", "wears", "(I)V"⟩ prog_14_method_68_code 2 none 1 := ⟨rfl, zk_198⟩
theorem zl_226 : xCal PZ 226 ⟨"CapitalCaseModel", "wearsOf", "(II)I"⟩ prog_14_method_61_code 3 (some .int) 2 := ⟨rfl, zk_199⟩
theorem zl_227 : xCal PZ 227 ⟨"CapitalCaseModel", "whose", "(II)I"⟩ prog_14_method_109_code 4 (some .int) 2 := ⟨rfl, zk_200⟩
theorem zl_228 : xCal PZ 228 ⟨"CapitalCaseModel", "whoseBits", "(I)I"⟩ prog_14_method_108_code 6 (some .int) 1 := ⟨rfl, zk_201⟩
theorem zl_229 : xCal PZ 229 ⟨"CapitalCaseModel", "wornOut", "(II)I"⟩ prog_14_method_102_code 4 (some .int) 2 := ⟨rfl, zk_202⟩
theorem zl_230 : xCal PZ 230 ⟨"CapitalCaseModel", "worth", "(II)I"⟩ prog_14_method_89_code 4 (some .int) 2 := ⟨rfl, zk_203⟩
theorem zl_231 : xCal PZ 231 ⟨"CapitalCaseModel", "wrong", "(II)V"⟩ prog_14_method_16_code 4 none 2 := ⟨rfl, zk_204⟩
theorem zl_232 : xCal PZ 232 ⟨"CapitalCaseModel", "year", "(IIII)I"⟩ prog_14_method_105_code 7 (some .int) 4 := ⟨rfl, zk_205⟩
theorem zl_233 : xCal PZ 233 ⟨"java/lang/Integer", "bitCount", "(I)I"⟩ prog_16_method_49_code 1 (some .int) 1 := ⟨rfl, zk_206⟩
theorem zl_234 : xCal PZ 234 ⟨"java/util/Arrays", "fill", "([II)V"⟩ prog_22_method_103_code 4 none 2 := ⟨rfl, zk_207⟩
theorem zl_235 : xCal PZ 235 ⟨"java/util/Arrays", "fill", "([II)V"⟩ prog_22_method_103_code 4 none 2 := ⟨rfl, zk_207⟩
theorem zl_236 : xCal PZ 236 ⟨"java/util/Arrays", "fill", "([II)V"⟩ prog_22_method_103_code 4 none 2 := ⟨rfl, zk_207⟩
theorem zl_237 : xCal PZ 237 ⟨"java/util/Arrays", "fill", "([II)V"⟩ prog_22_method_103_code 4 none 2 := ⟨rfl, zk_207⟩
theorem zl_238 : xCal PZ 238 ⟨"java/util/Arrays", "fill", "([II)V"⟩ prog_22_method_103_code 4 none 2 := ⟨rfl, zk_207⟩
theorem zl_239 : xCal PZ 239 ⟨"java/util/Arrays", "fill", "([II)V"⟩ prog_22_method_103_code 4 none 2 := ⟨rfl, zk_207⟩
theorem zl_240 : xCal PZ 240 ⟨"CapitalCase$Tokens", "isBlank", "(I)Z"⟩ prog_9_method_3_code 1 (some .boolean) 1 := ⟨rfl, zk_208⟩
theorem zl_241 : xCal PZ 241 ⟨"CapitalCase$Tokens", "isDigit", "(I)Z"⟩ prog_9_method_5_code 1 (some .boolean) 1 := ⟨rfl, zk_209⟩
theorem zl_242 : xCal PZ 242 ⟨"CapitalCase$Tokens", "isLower", "(I)Z"⟩ prog_9_method_4_code 1 (some .boolean) 1 := ⟨rfl, zk_210⟩
theorem zl_244 : xCal PZ 244 ⟨"CapitalCaseModel", "isDigit", "(I)Z"⟩ prog_14_method_7_code 1 (some .boolean) 1 := ⟨rfl, zk_212⟩
theorem zl_245 : xCal PZ 245 ⟨"CapitalCaseModel", "isLetter", "(I)Z"⟩ prog_14_method_8_code 1 (some .boolean) 1 := ⟨rfl, zk_213⟩
theorem zl_279 : xCal PZ 279 ⟨"CapitalCaseModel", "in", "(III)Z"⟩ prog_14_method_40_code 3 (some .boolean) 3 := ⟨rfl, zk_148⟩
theorem zl_246 : xCal PZ 246 ⟨"CapitalCaseModel", "cut", "()V"⟩ prog_14_method_12_code 8 none 0 := ⟨rfl, zk_214⟩
theorem zl_247 : xCal PZ 247 ⟨"CapitalCaseModel", "token", "(IIIJ)V"⟩ prog_14_method_11_code 6 none 4 := ⟨rfl, zk_215⟩
theorem zl_248 : xCal PZ 248 ⟨"CapitalCaseModel", "sign", "(III)I"⟩ prog_14_method_13_code 5 (some .int) 3 := ⟨rfl, zk_216⟩
theorem zl_249 : xCal PZ 249 ⟨"CapitalCaseModel", "appends", "(JI)J"⟩ prog_14_method_9_code 3 (some .long) 2 := ⟨rfl, zk_217⟩
theorem zl_250 : xCal PZ 250 ⟨"CapitalCaseModel", "plain", "(I)V"⟩ prog_14_method_19_code 3 none 1 := ⟨rfl, zk_218⟩
theorem zl_251 : xCal PZ 251 ⟨"CapitalCaseModel", "tellOne", "()V"⟩ prog_14_method_24_code 2 none 0 := ⟨rfl, zk_219⟩
theorem zl_252 : xCal PZ 252 ⟨"CapitalCaseModel", "ends", "(I)V"⟩ prog_14_method_26_code 2 none 1 := ⟨rfl, zk_220⟩
theorem zl_253 : xCal PZ 253 ⟨"CapitalCaseModel", "takesLetters", "()V"⟩ prog_14_method_30_code 4 none 0 := ⟨rfl, zk_221⟩
theorem zl_254 : xCal PZ 254 ⟨"CapitalCaseModel", "lettersIn", "(J)I"⟩ prog_14_method_28_code 5 (some .int) 1 := ⟨rfl, zk_222⟩
theorem zl_255 : xCal PZ 255 ⟨"CapitalCaseModel", "letterIn", "(JI)I"⟩ prog_14_method_29_code 6 (some .int) 2 := ⟨rfl, zk_223⟩
theorem zl_256 : xCal PZ 256 ⟨"CapitalCaseModel", "tellHouse", "()V"⟩ prog_14_method_31_code 4 none 0 := ⟨rfl, zk_224⟩
theorem zl_257 : xCal PZ 257 ⟨"CapitalCaseModel", "tellVerse", "()V"⟩ prog_14_method_32_code 4 none 0 := ⟨rfl, zk_225⟩
theorem zl_258 : xCal PZ 258 ⟨"CapitalCaseModel", "tellLaw", "(I)V"⟩ prog_14_method_33_code 4 none 1 := ⟨rfl, zk_226⟩
theorem zl_259 : xCal PZ 259 ⟨"CapitalCaseModel", "term", "()V"⟩ prog_14_method_34_code 1 none 0 := ⟨rfl, zk_227⟩
theorem zl_260 : xCal PZ 260 ⟨"CapitalCaseModel", "emit", "(II)V"⟩ prog_14_method_35_code 3 none 2 := ⟨rfl, zk_228⟩
theorem zl_261 : xCal PZ 261 ⟨"CapitalCaseModel", "comesOut", "(Z)V"⟩ prog_14_method_36_code 3 none 1 := ⟨rfl, zk_229⟩
theorem zl_262 : xCal PZ 262 ⟨"CapitalCaseModel", "expression", "()V"⟩ prog_14_method_37_code 3 none 0 := ⟨rfl, zk_230⟩
theorem zl_263 : xCal PZ 263 ⟨"CapitalCaseModel", "unit", "()V"⟩ prog_14_method_38_code 1 none 0 := ⟨rfl, zk_231⟩
theorem zl_264 : xCal PZ 264 ⟨"CapitalCaseModel", "termOf", "(II)I"⟩ prog_14_method_39_code 8 (some .int) 2 := ⟨rfl, zk_232⟩
theorem zl_265 : xCal PZ 265 ⟨"CapitalCase$Script", "leadOn", "(I)V"⟩ prog_8_method_5_code 2 none 1 := ⟨rfl, zk_233⟩
theorem zl_266 : xCal PZ 266 ⟨"CapitalCase$Parser", "parseSum", "(I)Z"⟩ prog_4_method_16_code 4 (some .boolean) 1 := ⟨rfl, zk_234⟩
theorem zl_267 : xCal PZ 267 ⟨"CapitalCase$Parser", "parsePart", "(I)Z"⟩ prog_4_method_17_code 4 (some .boolean) 1 := ⟨rfl, zk_235⟩
theorem zl_268 : xCal PZ 268 ⟨"CapitalCase$Parser", "parseUnit", "(I)Z"⟩ prog_4_method_18_code 3 (some .boolean) 1 := ⟨rfl, zk_236⟩
theorem zl_269 : xCal PZ 269 ⟨"CapitalCase$Parser", "letterOf", "(II)I"⟩ prog_4_method_13_code 3 (some .int) 2 := ⟨rfl, zk_237⟩
theorem zl_270 : xCal PZ 270 ⟨"CapitalCase$Parser", "areLetters", "(I)Z"⟩ prog_4_method_12_code 3 (some .boolean) 1 := ⟨rfl, zk_238⟩
theorem zl_271 : xCal PZ 271 ⟨"CapitalCase$Tokens", "kindOf", "([BII)I"⟩ prog_9_method_7_code 4 (some .int) 3 := ⟨rfl, zk_239⟩
theorem zl_272 : xCal PZ 272 ⟨"CapitalCase$Tokens", "wordOrName", "([BII)I"⟩ prog_9_method_8_code 4 (some .int) 3 := ⟨rfl, zk_240⟩
theorem zl_273 : xCal PZ 273 ⟨"CapitalCase$Tokens", "isWord", "(I[BII)Z"⟩ prog_9_method_9_code 6 (some .boolean) 4 := ⟨rfl, zk_241⟩
theorem zl_274 : xCal PZ 274 ⟨"CapitalCase$Tokens", "sizeAt", "([BII)I"⟩ prog_9_method_6_code 5 (some .int) 3 := ⟨rfl, zk_242⟩
theorem zl_280 : xCal PZ 280 ⟨"CapitalCase$Judge", "reckon", "(III)I"⟩ prog_3_method_9_code 3 (some .int) 3 := ⟨rfl, zk_243⟩
theorem zl_287 : xCal PZ 287 ⟨"CapitalCaseModel", "byteAt", "(I)I"⟩ prog_14_method_6_code 2 (some .int) 1 := ⟨rfl, zk_211⟩
theorem zl_275 : xCal PZ 275 ⟨"CapitalCase", "feed", "(IIIII)I"⟩ prog_1_method_2_code 6 (some .int) 5 := ⟨rfl, zk_81⟩
theorem zl_276 : xCal PZ 276 ⟨"CapitalCaseModel", "feed", "(IIIII)I"⟩ prog_14_method_3_code 6 (some .int) 5 := ⟨rfl, zk_134⟩
theorem zl_277 : xCal PZ 277 ⟨"CapitalCase", "back", "(I)I"⟩ prog_1_method_4_code 2 (some .int) 1 := ⟨rfl, zk_72⟩
theorem zl_278 : xCal PZ 278 ⟨"CapitalCaseModel", "back", "(I)I"⟩ prog_14_method_5_code 2 (some .int) 1 := ⟨rfl, zk_119⟩
theorem zl_281 : xCal PZ 281 ⟨"CapitalCaseModel", "named", "()I"⟩ prog_14_method_25_code 3 (some .int) 0 := ⟨rfl, zk_170⟩
theorem zl_282 : xCal PZ 282 ⟨"CapitalCase$Script", "add", "(II)V"⟩ prog_8_method_4_code 3 none 2 := ⟨rfl, zk_43⟩
theorem zl_283 : xCal PZ 283 ⟨"CapitalCase$Parser", "next", "()I"⟩ prog_4_method_3_code 1 (some .int) 0 := ⟨rfl, zk_13⟩
theorem zl_284 : xCal PZ 284 ⟨"CapitalCase$Parser", "accept", "(I)Z"⟩ prog_4_method_5_code 2 (some .boolean) 1 := ⟨rfl, zk_9⟩
theorem zl_285 : xCal PZ 285 ⟨"CapitalCaseModel", "is", "(I)Z"⟩ prog_14_method_14_code 2 (some .boolean) 1 := ⟨rfl, zk_149⟩
theorem zl_286 : xCal PZ 286 ⟨"CapitalCaseModel", "roomFor", "(II)V"⟩ prog_14_method_22_code 3 none 2 := ⟨rfl, zk_183⟩
theorem zl_288 : xCal PZ 288 ⟨"CapitalCaseModel", "in", "(III)Z"⟩ prog_14_method_40_code 3 (some .boolean) 3 := ⟨rfl, zk_148⟩
