set_option maxRecDepth 100000 in
theorem wd_137 : Cond.code ⟨"CapitalCase", "<init>", "()V"⟩ prog_1_method_1_code 1 none ∈ xTB := xw 137 (rfl) (by decide +kernel)
set_option maxRecDepth 100000 in
theorem wd_145 : Cond.code ⟨"CapitalCase$Script", "<init>", "()V"⟩ prog_8_method_1_code 1 none ∈ xTB := xw 145 (rfl) (by decide +kernel)
set_option maxRecDepth 100000 in
theorem wd_150 : Cond.code ⟨"CapitalCase$Script", "wipe", "()V"⟩ prog_8_method_2_code 1 none ∈ xTB := xw 150 (rfl) (by decide +kernel)
set_option maxRecDepth 100000 in
theorem wd_153 : Cond.code ⟨"java/util/Arrays", "fill", "([II)V"⟩ prog_22_method_103_code 4 none ∈ xTB := xw 153 (rfl) (by decide +kernel)
set_option maxRecDepth 100000 in
theorem wd_157 : Cond.code ⟨"CapitalCase$Script", "layDown", "(III)V"⟩ prog_8_method_3_code 4 none ∈ xTB := xw 157 (rfl) (by decide +kernel)
set_option maxRecDepth 100000 in
theorem wd_161 : Cond.code ⟨"CapitalCase$Script", "add", "(II)V"⟩ prog_8_method_4_code 3 none ∈ xTB := xw 161 (rfl) (by decide +kernel)
set_option maxRecDepth 100000 in
theorem wd_258 : Cond.code ⟨"CapitalCase$Parser", "<init>", "([B)V"⟩ prog_4_method_1_code 2 none ∈ xTB := xw 258 (rfl) (by decide +kernel)
set_option maxRecDepth 100000 in
theorem wd_266 : Cond.code ⟨"CapitalCase$Tokens", "<init>", "()V"⟩ prog_9_method_1_code 1 none ∈ xTB := xw 266 (rfl) (by decide +kernel)
set_option maxRecDepth 100000 in
theorem wd_318 : Cond.code ⟨"CapitalCase$Town", "<init>", "()V"⟩ prog_10_method_1_code 1 none ∈ xTB := xw 318 (rfl) (by decide +kernel)
set_option maxRecDepth 100000 in
theorem wd_380 : Cond.code ⟨"CapitalCase$History", "<init>", "()V"⟩ prog_2_method_1_code 1 none ∈ xTB := xw 380 (rfl) (by decide +kernel)
set_option maxRecDepth 100000 in
theorem wd_399 : Cond.code ⟨"CapitalCase$Prints", "<init>", "()V"⟩ prog_7_method_1_code 1 none ∈ xTB := xw 399 (rfl) (by decide +kernel)
set_option maxRecDepth 100000 in
theorem wd_420 : Cond.code ⟨"CapitalCase$Judge", "<init>", "(LCapitalCase$Script;)V"⟩ prog_3_method_1_code 2 none ∈ xTB := xw 420 (rfl) (by decide +kernel)
set_option maxRecDepth 100000 in
theorem wd_436 : Cond.code ⟨"CapitalCase$Press", "<init>", "(LCapitalCase$Script;LCapitalCase$Judge;)V"⟩ prog_6_method_1_code 3 none ∈ xTB := xw 436 (rfl) (by decide +kernel)
set_option maxRecDepth 100000 in
theorem wd_449 : Cond.code ⟨"CapitalCase$Planner", "<init>", "(LCapitalCase$Script;LCapitalCase$Judge;)V"⟩ prog_5_method_1_code 3 none ∈ xTB := xw 449 (rfl) (by decide +kernel)
set_option maxRecDepth 100000 in
theorem wd_499 : Cond.code ⟨"CapitalCase$TwoDays", "<init>", "(LCapitalCase$Script;LCapitalCase$Judge;LCapitalCase$Press;LCapitalCase$Planner;)V"⟩ prog_12_method_1_code 5 none ∈ xTB := xw 499 (rfl) (by decide +kernel)
set_option maxRecDepth 100000 in
theorem wd_539 : Cond.code ⟨"CapitalCase$Trade", "<init>", "(LCapitalCase$Script;)V"⟩ prog_11_method_1_code 2 none ∈ xTB := xw 539 (rfl) (by decide +kernel)
set_option maxRecDepth 100000 in
theorem wd_1261 : Cond.code ⟨"CapitalCaseModel", "<init>", "()V"⟩ prog_14_method_2_code 1 none ∈ xTB := xw 1261 (rfl) (by decide +kernel)
set_option maxRecDepth 100000 in
theorem wd_1266 : Cond.code ⟨"CapitalCaseModel", "plain", "(I)V"⟩ prog_14_method_19_code 3 none ∈ xTB := xw 1266 (rfl) (by decide +kernel)
set_option maxRecDepth 100000 in
theorem wd_1269 : Cond.code ⟨"CapitalCaseModel", "word", "(IIIIIII)J"⟩ prog_14_method_10_code 7 (some .long) ∈ xTB := xw 1269 (rfl) (by decide +kernel)
set_option maxRecDepth 100000 in
theorem wd_1272 : Cond.code ⟨"CapitalCaseModel", "appends", "(JI)J"⟩ prog_14_method_9_code 3 (some .long) ∈ xTB := xw 1272 (rfl) (by decide +kernel)
set_option maxRecDepth 100000 in
theorem wd_1277 : Cond.code ⟨"CapitalCaseModel", "begins", "()V"⟩ prog_14_method_46_code 2 none ∈ xTB := xw 1277 (rfl) (by decide +kernel)
set_option maxRecDepth 100000 in
theorem wd_1281 : Cond.code ⟨"CapitalCaseModel", "keepsRow", "()V"⟩ prog_14_method_47_code 2 none ∈ xTB := xw 1281 (rfl) (by decide +kernel)
set_option maxRecDepth 100000 in
theorem wd_obj : Cond.code objectInit ⟨#[0xb1]⟩ 1 none ∈ xTB := xw 140 rfl (by decide +kernel)
noncomputable def PX : xPX := bn 11 (bn 5 (bn 2 (bn 1 (bl 0 ((⟨"CapitalCase$History", "<init>", "()V"⟩, prog_2_method_1_code, 1, none))) (bl 1 ((⟨"CapitalCase$Judge", "<init>", "(LCapitalCase$Script;)V"⟩, prog_3_method_1_code, 2, none)))) (bn 3 (bl 2 ((⟨"CapitalCase$Parser", "<init>", "([B)V"⟩, prog_4_method_1_code, 2, none))) (bn 4 (bl 3 ((⟨"CapitalCase$Planner", "<init>", "(LCapitalCase$Script;LCapitalCase$Judge;)V"⟩, prog_5_method_1_code, 3, none))) (bl 4 ((⟨"CapitalCase$Press", "<init>", "(LCapitalCase$Script;LCapitalCase$Judge;)V"⟩, prog_6_method_1_code, 3, none)))))) (bn 8 (bn 6 (bl 5 ((⟨"CapitalCase$Prints", "<init>", "()V"⟩, prog_7_method_1_code, 1, none))) (bn 7 (bl 6 ((⟨"CapitalCase$Script", "<init>", "()V"⟩, prog_8_method_1_code, 1, none))) (bl 7 ((⟨"CapitalCase$Script", "add", "(II)V"⟩, prog_8_method_4_code, 3, none))))) (bn 9 (bl 8 ((⟨"CapitalCase$Script", "layDown", "(III)V"⟩, prog_8_method_3_code, 4, none))) (bn 10 (bl 9 ((⟨"CapitalCase$Script", "wipe", "()V"⟩, prog_8_method_2_code, 1, none))) (bl 10 ((⟨"CapitalCase$Tokens", "<init>", "()V"⟩, prog_9_method_1_code, 1, none))))))) (bn 16 (bn 13 (bn 12 (bl 11 ((⟨"CapitalCase$Town", "<init>", "()V"⟩, prog_10_method_1_code, 1, none))) (bl 12 ((⟨"CapitalCase$Trade", "<init>", "(LCapitalCase$Script;)V"⟩, prog_11_method_1_code, 2, none)))) (bn 14 (bl 13 ((⟨"CapitalCase$TwoDays", "<init>", "(LCapitalCase$Script;LCapitalCase$Judge;LCapitalCase$Press;LCapitalCase$Planner;)V"⟩, prog_12_method_1_code, 5, none))) (bn 15 (bl 14 ((⟨"CapitalCase", "<init>", "()V"⟩, prog_1_method_1_code, 1, none))) (bl 15 ((⟨"CapitalCaseModel", "<init>", "()V"⟩, prog_14_method_2_code, 1, none)))))) (bn 19 (bn 17 (bl 16 ((⟨"CapitalCaseModel", "appends", "(JI)J"⟩, prog_14_method_9_code, 3, (some .long)))) (bn 18 (bl 17 ((⟨"CapitalCaseModel", "begins", "()V"⟩, prog_14_method_46_code, 2, none))) (bl 18 ((⟨"CapitalCaseModel", "keepsRow", "()V"⟩, prog_14_method_47_code, 2, none))))) (bn 20 (bl 19 ((⟨"CapitalCaseModel", "plain", "(I)V"⟩, prog_14_method_19_code, 3, none))) (bn 21 (bl 20 ((⟨"CapitalCaseModel", "word", "(IIIIIII)J"⟩, prog_14_method_10_code, 7, (some .long)))) (bl 21 ((⟨"java/util/Arrays", "fill", "([II)V"⟩, prog_22_method_103_code, 4, none)))))))
theorem cal_0 : xCal PX 0 ⟨"CapitalCase$History", "<init>", "()V"⟩ prog_2_method_1_code 1 none 0 := ⟨rfl, wd_380, wd_117, by decide, by decide, by decide, by decide +kernel⟩
theorem cal_1 : xCal PX 1 ⟨"CapitalCase$Judge", "<init>", "(LCapitalCase$Script;)V"⟩ prog_3_method_1_code 2 none 1 := ⟨rfl, wd_420, wd_119, by decide, by decide, by decide, by decide +kernel⟩
theorem cal_2 : xCal PX 2 ⟨"CapitalCase$Parser", "<init>", "([B)V"⟩ prog_4_method_1_code 2 none 1 := ⟨rfl, wd_258, wd_114, by decide, by decide, by decide, by decide +kernel⟩
theorem cal_3 : xCal PX 3 ⟨"CapitalCase$Planner", "<init>", "(LCapitalCase$Script;LCapitalCase$Judge;)V"⟩ prog_5_method_1_code 3 none 2 := ⟨rfl, wd_449, wd_121, by decide, by decide, by decide, by decide +kernel⟩
theorem cal_4 : xCal PX 4 ⟨"CapitalCase$Press", "<init>", "(LCapitalCase$Script;LCapitalCase$Judge;)V"⟩ prog_6_method_1_code 3 none 2 := ⟨rfl, wd_436, wd_120, by decide, by decide, by decide, by decide +kernel⟩
theorem cal_5 : xCal PX 5 ⟨"CapitalCase$Prints", "<init>", "()V"⟩ prog_7_method_1_code 1 none 0 := ⟨rfl, wd_399, wd_118, by decide, by decide, by decide, by decide +kernel⟩
theorem cal_6 : xCal PX 6 ⟨"CapitalCase$Script", "<init>", "()V"⟩ prog_8_method_1_code 1 none 0 := ⟨rfl, wd_145, wd_112, by decide, by decide, by decide, by decide +kernel⟩
theorem cal_7 : xCal PX 7 ⟨"CapitalCase$Script", "add", "(II)V"⟩ prog_8_method_4_code 3 none 2 := ⟨rfl, wd_161, wd_112, by decide, by decide, by decide, by decide +kernel⟩
theorem cal_8 : xCal PX 8 ⟨"CapitalCase$Script", "layDown", "(III)V"⟩ prog_8_method_3_code 4 none 3 := ⟨rfl, wd_157, wd_112, by decide, by decide, by decide, by decide +kernel⟩
theorem cal_9 : xCal PX 9 ⟨"CapitalCase$Script", "wipe", "()V"⟩ prog_8_method_2_code 1 none 0 := ⟨rfl, wd_150, wd_112, by decide, by decide, by decide, by decide +kernel⟩
theorem cal_10 : xCal PX 10 ⟨"CapitalCase$Tokens", "<init>", "()V"⟩ prog_9_method_1_code 1 none 0 := ⟨rfl, wd_266, wd_115, by decide, by decide, by decide, by decide +kernel⟩
theorem cal_11 : xCal PX 11 ⟨"CapitalCase$Town", "<init>", "()V"⟩ prog_10_method_1_code 1 none 0 := ⟨rfl, wd_318, wd_116, by decide, by decide, by decide, by decide +kernel⟩
theorem cal_12 : xCal PX 12 ⟨"CapitalCase$Trade", "<init>", "(LCapitalCase$Script;)V"⟩ prog_11_method_1_code 2 none 1 := ⟨rfl, wd_539, wd_123, by decide, by decide, by decide, by decide +kernel⟩
theorem cal_13 : xCal PX 13 ⟨"CapitalCase$TwoDays", "<init>", "(LCapitalCase$Script;LCapitalCase$Judge;LCapitalCase$Press;LCapitalCase$Planner;)V"⟩ prog_12_method_1_code 5 none 4 := ⟨rfl, wd_499, wd_122, by decide, by decide, by decide, by decide +kernel⟩
theorem cal_14 : xCal PX 14 ⟨"CapitalCase", "<init>", "()V"⟩ prog_1_method_1_code 1 none 0 := ⟨rfl, wd_137, wd_111, by decide, by decide, by decide, by decide +kernel⟩
theorem cal_15 : xCal PX 15 ⟨"CapitalCaseModel", "<init>", "()V"⟩ prog_14_method_2_code 1 none 0 := ⟨rfl, wd_1261, wd_124, by decide, by decide, by decide, by decide +kernel⟩
theorem cal_16 : xCal PX 16 ⟨"CapitalCaseModel", "appends", "(JI)J"⟩ prog_14_method_9_code 3 (some .long) 2 := ⟨rfl, wd_1272, wd_124, by decide, by decide, by decide, by decide +kernel⟩
theorem cal_17 : xCal PX 17 ⟨"CapitalCaseModel", "begins", "()V"⟩ prog_14_method_46_code 2 none 0 := ⟨rfl, wd_1277, wd_124, by decide, by decide, by decide, by decide +kernel⟩
theorem cal_18 : xCal PX 18 ⟨"CapitalCaseModel", "keepsRow", "()V"⟩ prog_14_method_47_code 2 none 0 := ⟨rfl, wd_1281, wd_124, by decide, by decide, by decide, by decide +kernel⟩
theorem cal_19 : xCal PX 19 ⟨"CapitalCaseModel", "plain", "(I)V"⟩ prog_14_method_19_code 3 none 1 := ⟨rfl, wd_1266, wd_124, by decide, by decide, by decide, by decide +kernel⟩
theorem cal_20 : xCal PX 20 ⟨"CapitalCaseModel", "word", "(IIIIIII)J"⟩ prog_14_method_10_code 7 (some .long) 7 := ⟨rfl, wd_1269, wd_124, by decide, by decide, by decide, by decide +kernel⟩
theorem cal_21 : xCal PX 21 ⟨"java/util/Arrays", "fill", "([II)V"⟩ prog_22_method_103_code 4 none 2 := ⟨rfl, wd_153, wd_113, by decide, by decide, by decide, by decide +kernel⟩
