set_option maxRecDepth 100000 in
theorem wd_614 : Cond.methodLink "CapitalCaseLaw" 23 ⟨"CapitalCase", "read", "()I"⟩ ∈ xTB := xw 614 (by decide +kernel) (by decide +kernel)
set_option maxRecDepth 100000 in
theorem wd_615 : Cond.instanceMethod ⟨"CapitalCase", "read", "()I"⟩ ∈ xTB := xw 615 (by decide +kernel) (by decide +kernel)
set_option maxRecDepth 100000 in
theorem wd_616 : Cond.selects "CapitalCase" ⟨"CapitalCase", "read", "()I"⟩ ⟨"CapitalCase", "read", "()I"⟩ ∈ xTB := xw 616 (by decide +kernel) (by decide +kernel)
set_option maxRecDepth 100000 in
theorem wd_842 : Cond.methodLink "CapitalCaseLaw" 28 ⟨"CapitalCase", "place", "()I"⟩ ∈ xTB := xw 842 (by decide +kernel) (by decide +kernel)
set_option maxRecDepth 100000 in
theorem wd_843 : Cond.instanceMethod ⟨"CapitalCase", "place", "()I"⟩ ∈ xTB := xw 843 (by decide +kernel) (by decide +kernel)
set_option maxRecDepth 100000 in
theorem wd_844 : Cond.selects "CapitalCase" ⟨"CapitalCase", "place", "()I"⟩ ⟨"CapitalCase", "place", "()I"⟩ ∈ xTB := xw 844 (by decide +kernel) (by decide +kernel)
set_option maxRecDepth 100000 in
theorem wd_846 : Cond.methodLink "CapitalCaseLaw" 32 ⟨"CapitalCase", "house", "(III)I"⟩ ∈ xTB := xw 846 (by decide +kernel) (by decide +kernel)
set_option maxRecDepth 100000 in
theorem wd_847 : Cond.instanceMethod ⟨"CapitalCase", "house", "(III)I"⟩ ∈ xTB := xw 847 (by decide +kernel) (by decide +kernel)
set_option maxRecDepth 100000 in
theorem wd_848 : Cond.selects "CapitalCase" ⟨"CapitalCase", "house", "(III)I"⟩ ⟨"CapitalCase", "house", "(III)I"⟩ ∈ xTB := xw 848 (by decide +kernel) (by decide +kernel)
set_option maxRecDepth 100000 in
theorem wd_890 : Cond.methodLink "CapitalCaseLaw" 37 ⟨"CapitalCase", "verse", "(II)I"⟩ ∈ xTB := xw 890 (by decide +kernel) (by decide +kernel)
set_option maxRecDepth 100000 in
theorem wd_891 : Cond.instanceMethod ⟨"CapitalCase", "verse", "(II)I"⟩ ∈ xTB := xw 891 (by decide +kernel) (by decide +kernel)
set_option maxRecDepth 100000 in
theorem wd_892 : Cond.selects "CapitalCase" ⟨"CapitalCase", "verse", "(II)I"⟩ ⟨"CapitalCase", "verse", "(II)I"⟩ ∈ xTB := xw 892 (by decide +kernel) (by decide +kernel)
set_option maxRecDepth 100000 in
theorem wd_910 : Cond.methodLink "CapitalCaseLaw" 42 ⟨"CapitalCase", "wants", "(II)I"⟩ ∈ xTB := xw 910 (by decide +kernel) (by decide +kernel)
set_option maxRecDepth 100000 in
theorem wd_914 : Cond.methodLink "CapitalCaseLaw" 46 ⟨"CapitalCase", "tells", "(IIII)I"⟩ ∈ xTB := xw 914 (by decide +kernel) (by decide +kernel)
set_option maxRecDepth 100000 in
theorem wd_915 : Cond.instanceMethod ⟨"CapitalCase", "tells", "(IIII)I"⟩ ∈ xTB := xw 915 (by decide +kernel) (by decide +kernel)
set_option maxRecDepth 100000 in
theorem wd_916 : Cond.selects "CapitalCase" ⟨"CapitalCase", "tells", "(IIII)I"⟩ ⟨"CapitalCase", "tells", "(IIII)I"⟩ ∈ xTB := xw 916 (by decide +kernel) (by decide +kernel)
set_option maxRecDepth 100000 in
theorem wd_927 : Cond.methodLink "CapitalCaseLaw" 51 ⟨"CapitalCase", "set", "(I)Z"⟩ ∈ xTB := xw 927 (by decide +kernel) (by decide +kernel)
set_option maxRecDepth 100000 in
theorem wd_928 : Cond.instanceMethod ⟨"CapitalCase", "set", "(I)Z"⟩ ∈ xTB := xw 928 (by decide +kernel) (by decide +kernel)
set_option maxRecDepth 100000 in
theorem wd_929 : Cond.selects "CapitalCase" ⟨"CapitalCase", "set", "(I)Z"⟩ ⟨"CapitalCase", "set", "(I)Z"⟩ ∈ xTB := xw 929 (by decide +kernel) (by decide +kernel)
set_option maxRecDepth 100000 in
theorem wd_981 : Cond.methodLink "CapitalCaseLaw" 56 ⟨"CapitalCase", "clear", "(I)Z"⟩ ∈ xTB := xw 981 (by decide +kernel) (by decide +kernel)
set_option maxRecDepth 100000 in
theorem wd_982 : Cond.instanceMethod ⟨"CapitalCase", "clear", "(I)Z"⟩ ∈ xTB := xw 982 (by decide +kernel) (by decide +kernel)
set_option maxRecDepth 100000 in
theorem wd_983 : Cond.selects "CapitalCase" ⟨"CapitalCase", "clear", "(I)Z"⟩ ⟨"CapitalCase", "clear", "(I)Z"⟩ ∈ xTB := xw 983 (by decide +kernel) (by decide +kernel)
set_option maxRecDepth 100000 in
theorem wd_997 : Cond.methodLink "CapitalCaseLaw" 65 ⟨"CapitalCase", "giveBack", "(III)Z"⟩ ∈ xTB := xw 997 (by decide +kernel) (by decide +kernel)
set_option maxRecDepth 100000 in
theorem wd_998 : Cond.instanceMethod ⟨"CapitalCase", "giveBack", "(III)Z"⟩ ∈ xTB := xw 998 (by decide +kernel) (by decide +kernel)
set_option maxRecDepth 100000 in
theorem wd_999 : Cond.selects "CapitalCase" ⟨"CapitalCase", "giveBack", "(III)Z"⟩ ⟨"CapitalCase", "giveBack", "(III)Z"⟩ ∈ xTB := xw 999 (by decide +kernel) (by decide +kernel)
set_option maxRecDepth 100000 in
theorem wd_1001 : Cond.methodLink "CapitalCaseLaw" 69 ⟨"CapitalCase", "days", "(I)I"⟩ ∈ xTB := xw 1001 (by decide +kernel) (by decide +kernel)
set_option maxRecDepth 100000 in
theorem wd_1002 : Cond.instanceMethod ⟨"CapitalCase", "days", "(I)I"⟩ ∈ xTB := xw 1002 (by decide +kernel) (by decide +kernel)
set_option maxRecDepth 100000 in
theorem wd_1003 : Cond.selects "CapitalCase" ⟨"CapitalCase", "days", "(I)I"⟩ ⟨"CapitalCase", "days", "(I)I"⟩ ∈ xTB := xw 1003 (by decide +kernel) (by decide +kernel)
set_option maxRecDepth 100000 in
theorem wd_1043 : Cond.methodLink "CapitalCaseLaw" 73 ⟨"CapitalCase", "undo", "()Z"⟩ ∈ xTB := xw 1043 (by decide +kernel) (by decide +kernel)
set_option maxRecDepth 100000 in
theorem wd_1044 : Cond.instanceMethod ⟨"CapitalCase", "undo", "()Z"⟩ ∈ xTB := xw 1044 (by decide +kernel) (by decide +kernel)
set_option maxRecDepth 100000 in
theorem wd_1045 : Cond.selects "CapitalCase" ⟨"CapitalCase", "undo", "()Z"⟩ ⟨"CapitalCase", "undo", "()Z"⟩ ∈ xTB := xw 1045 (by decide +kernel) (by decide +kernel)
set_option maxRecDepth 100000 in
theorem wd_1051 : Cond.methodLink "CapitalCaseLaw" 78 ⟨"CapitalCase", "from", "(II)I"⟩ ∈ xTB := xw 1051 (by decide +kernel) (by decide +kernel)
set_option maxRecDepth 100000 in
theorem wd_1052 : Cond.instanceMethod ⟨"CapitalCase", "from", "(II)I"⟩ ∈ xTB := xw 1052 (by decide +kernel) (by decide +kernel)
set_option maxRecDepth 100000 in
theorem wd_1053 : Cond.selects "CapitalCase" ⟨"CapitalCase", "from", "(II)I"⟩ ⟨"CapitalCase", "from", "(II)I"⟩ ∈ xTB := xw 1053 (by decide +kernel) (by decide +kernel)
set_option maxRecDepth 100000 in
theorem wd_1056 : Cond.methodLink "CapitalCaseLaw" 82 ⟨"CapitalCase", "best", "(I)I"⟩ ∈ xTB := xw 1056 (by decide +kernel) (by decide +kernel)
set_option maxRecDepth 100000 in
theorem wd_1057 : Cond.instanceMethod ⟨"CapitalCase", "best", "(I)I"⟩ ∈ xTB := xw 1057 (by decide +kernel) (by decide +kernel)
set_option maxRecDepth 100000 in
theorem wd_1058 : Cond.selects "CapitalCase" ⟨"CapitalCase", "best", "(I)I"⟩ ⟨"CapitalCase", "best", "(I)I"⟩ ∈ xTB := xw 1058 (by decide +kernel) (by decide +kernel)
set_option maxRecDepth 100000 in
theorem wd_1078 : Cond.methodLink "CapitalCaseLaw" 86 ⟨"CapitalCase", "worth", "(II)I"⟩ ∈ xTB := xw 1078 (by decide +kernel) (by decide +kernel)
set_option maxRecDepth 100000 in
theorem wd_1079 : Cond.instanceMethod ⟨"CapitalCase", "worth", "(II)I"⟩ ∈ xTB := xw 1079 (by decide +kernel) (by decide +kernel)
set_option maxRecDepth 100000 in
theorem wd_1080 : Cond.selects "CapitalCase" ⟨"CapitalCase", "worth", "(II)I"⟩ ⟨"CapitalCase", "worth", "(II)I"⟩ ∈ xTB := xw 1080 (by decide +kernel) (by decide +kernel)
set_option maxRecDepth 100000 in
theorem wd_1083 : Cond.methodLink "CapitalCaseLaw" 90 ⟨"CapitalCase", "pillar", "(I)I"⟩ ∈ xTB := xw 1083 (by decide +kernel) (by decide +kernel)
set_option maxRecDepth 100000 in
theorem wd_1084 : Cond.instanceMethod ⟨"CapitalCase", "pillar", "(I)I"⟩ ∈ xTB := xw 1084 (by decide +kernel) (by decide +kernel)
set_option maxRecDepth 100000 in
theorem wd_1085 : Cond.selects "CapitalCase" ⟨"CapitalCase", "pillar", "(I)I"⟩ ⟨"CapitalCase", "pillar", "(I)I"⟩ ∈ xTB := xw 1085 (by decide +kernel) (by decide +kernel)
set_option maxRecDepth 100000 in
theorem wd_1091 : Cond.methodLink "CapitalCaseLaw" 94 ⟨"CapitalCase", "twoDays", "(I)I"⟩ ∈ xTB := xw 1091 (by decide +kernel) (by decide +kernel)
set_option maxRecDepth 100000 in
theorem wd_1092 : Cond.instanceMethod ⟨"CapitalCase", "twoDays", "(I)I"⟩ ∈ xTB := xw 1092 (by decide +kernel) (by decide +kernel)
set_option maxRecDepth 100000 in
theorem wd_1093 : Cond.selects "CapitalCase" ⟨"CapitalCase", "twoDays", "(I)I"⟩ ⟨"CapitalCase", "twoDays", "(I)I"⟩ ∈ xTB := xw 1093 (by decide +kernel) (by decide +kernel)
set_option maxRecDepth 100000 in
theorem wd_1126 : Cond.methodLink "CapitalCaseLaw" 98 ⟨"CapitalCase", "loans", "(II)I"⟩ ∈ xTB := xw 1126 (by decide +kernel) (by decide +kernel)
set_option maxRecDepth 100000 in
theorem wd_1127 : Cond.instanceMethod ⟨"CapitalCase", "loans", "(II)I"⟩ ∈ xTB := xw 1127 (by decide +kernel) (by decide +kernel)
set_option maxRecDepth 100000 in
theorem wd_1128 : Cond.selects "CapitalCase" ⟨"CapitalCase", "loans", "(II)I"⟩ ⟨"CapitalCase", "loans", "(II)I"⟩ ∈ xTB := xw 1128 (by decide +kernel) (by decide +kernel)
set_option maxRecDepth 100000 in
theorem wd_1139 : Cond.methodLink "CapitalCaseLaw" 102 ⟨"CapitalCase", "bargains", "(I)I"⟩ ∈ xTB := xw 1139 (by decide +kernel) (by decide +kernel)
set_option maxRecDepth 100000 in
theorem wd_1140 : Cond.instanceMethod ⟨"CapitalCase", "bargains", "(I)I"⟩ ∈ xTB := xw 1140 (by decide +kernel) (by decide +kernel)
set_option maxRecDepth 100000 in
theorem wd_1141 : Cond.selects "CapitalCase" ⟨"CapitalCase", "bargains", "(I)I"⟩ ⟨"CapitalCase", "bargains", "(I)I"⟩ ∈ xTB := xw 1141 (by decide +kernel) (by decide +kernel)
set_option maxRecDepth 100000 in
theorem wd_1161 : Cond.methodLink "CapitalCaseLaw" 106 ⟨"CapitalCase", "strike", "(I)I"⟩ ∈ xTB := xw 1161 (by decide +kernel) (by decide +kernel)
set_option maxRecDepth 100000 in
theorem wd_1162 : Cond.instanceMethod ⟨"CapitalCase", "strike", "(I)I"⟩ ∈ xTB := xw 1162 (by decide +kernel) (by decide +kernel)
set_option maxRecDepth 100000 in
theorem wd_1163 : Cond.selects "CapitalCase" ⟨"CapitalCase", "strike", "(I)I"⟩ ⟨"CapitalCase", "strike", "(I)I"⟩ ∈ xTB := xw 1163 (by decide +kernel) (by decide +kernel)
set_option maxRecDepth 100000 in
theorem wd_1169 : Cond.methodLink "CapitalCaseLaw" 110 ⟨"CapitalCase", "clash", "(I)I"⟩ ∈ xTB := xw 1169 (by decide +kernel) (by decide +kernel)
set_option maxRecDepth 100000 in
theorem wd_1170 : Cond.instanceMethod ⟨"CapitalCase", "clash", "(I)I"⟩ ∈ xTB := xw 1170 (by decide +kernel) (by decide +kernel)
set_option maxRecDepth 100000 in
theorem wd_1171 : Cond.selects "CapitalCase" ⟨"CapitalCase", "clash", "(I)I"⟩ ⟨"CapitalCase", "clash", "(I)I"⟩ ∈ xTB := xw 1171 (by decide +kernel) (by decide +kernel)
set_option maxRecDepth 100000 in
theorem wd_1173 : Cond.methodLink "CapitalCaseLaw" 114 ⟨"CapitalCase", "late", "()I"⟩ ∈ xTB := xw 1173 (by decide +kernel) (by decide +kernel)
set_option maxRecDepth 100000 in
theorem wd_1174 : Cond.instanceMethod ⟨"CapitalCase", "late", "()I"⟩ ∈ xTB := xw 1174 (by decide +kernel) (by decide +kernel)
set_option maxRecDepth 100000 in
theorem wd_1175 : Cond.selects "CapitalCase" ⟨"CapitalCase", "late", "()I"⟩ ⟨"CapitalCase", "late", "()I"⟩ ∈ xTB := xw 1175 (by decide +kernel) (by decide +kernel)
set_option maxRecDepth 100000 in
theorem wd_1177 : Cond.methodLink "CapitalCaseLaw" 118 ⟨"CapitalCase", "wornOut", "(II)I"⟩ ∈ xTB := xw 1177 (by decide +kernel) (by decide +kernel)
set_option maxRecDepth 100000 in
theorem wd_1178 : Cond.instanceMethod ⟨"CapitalCase", "wornOut", "(II)I"⟩ ∈ xTB := xw 1178 (by decide +kernel) (by decide +kernel)
set_option maxRecDepth 100000 in
theorem wd_1179 : Cond.selects "CapitalCase" ⟨"CapitalCase", "wornOut", "(II)I"⟩ ⟨"CapitalCase", "wornOut", "(II)I"⟩ ∈ xTB := xw 1179 (by decide +kernel) (by decide +kernel)
set_option maxRecDepth 100000 in
theorem wd_1185 : Cond.methodLink "CapitalCaseLaw" 122 ⟨"CapitalCase", "then", "(IIII)I"⟩ ∈ xTB := xw 1185 (by decide +kernel) (by decide +kernel)
set_option maxRecDepth 100000 in
theorem wd_1186 : Cond.instanceMethod ⟨"CapitalCase", "then", "(IIII)I"⟩ ∈ xTB := xw 1186 (by decide +kernel) (by decide +kernel)
set_option maxRecDepth 100000 in
theorem wd_1187 : Cond.selects "CapitalCase" ⟨"CapitalCase", "then", "(IIII)I"⟩ ⟨"CapitalCase", "then", "(IIII)I"⟩ ∈ xTB := xw 1187 (by decide +kernel) (by decide +kernel)
set_option maxRecDepth 100000 in
theorem wd_1189 : Cond.methodLink "CapitalCaseLaw" 126 ⟨"CapitalCase", "paidIn", "(I)I"⟩ ∈ xTB := xw 1189 (by decide +kernel) (by decide +kernel)
set_option maxRecDepth 100000 in
theorem wd_1190 : Cond.instanceMethod ⟨"CapitalCase", "paidIn", "(I)I"⟩ ∈ xTB := xw 1190 (by decide +kernel) (by decide +kernel)
set_option maxRecDepth 100000 in
theorem wd_1191 : Cond.selects "CapitalCase" ⟨"CapitalCase", "paidIn", "(I)I"⟩ ⟨"CapitalCase", "paidIn", "(I)I"⟩ ∈ xTB := xw 1191 (by decide +kernel) (by decide +kernel)
set_option maxRecDepth 100000 in
theorem wd_1193 : Cond.methodLink "CapitalCaseLaw" 130 ⟨"CapitalCase", "year", "(IIII)I"⟩ ∈ xTB := xw 1193 (by decide +kernel) (by decide +kernel)
set_option maxRecDepth 100000 in
theorem wd_1194 : Cond.instanceMethod ⟨"CapitalCase", "year", "(IIII)I"⟩ ∈ xTB := xw 1194 (by decide +kernel) (by decide +kernel)
set_option maxRecDepth 100000 in
theorem wd_1195 : Cond.selects "CapitalCase" ⟨"CapitalCase", "year", "(IIII)I"⟩ ⟨"CapitalCase", "year", "(IIII)I"⟩ ∈ xTB := xw 1195 (by decide +kernel) (by decide +kernel)
set_option maxRecDepth 100000 in
theorem wd_1197 : Cond.methodLink "CapitalCaseLaw" 134 ⟨"CapitalCase", "tell", "(IIZ)I"⟩ ∈ xTB := xw 1197 (by decide +kernel) (by decide +kernel)
set_option maxRecDepth 100000 in
theorem wd_1198 : Cond.instanceMethod ⟨"CapitalCase", "tell", "(IIZ)I"⟩ ∈ xTB := xw 1198 (by decide +kernel) (by decide +kernel)
set_option maxRecDepth 100000 in
theorem wd_1199 : Cond.selects "CapitalCase" ⟨"CapitalCase", "tell", "(IIZ)I"⟩ ⟨"CapitalCase", "tell", "(IIZ)I"⟩ ∈ xTB := xw 1199 (by decide +kernel) (by decide +kernel)
set_option maxRecDepth 100000 in
theorem wd_1205 : Cond.methodLink "CapitalCaseLaw" 139 ⟨"CapitalCase", "forget", "()I"⟩ ∈ xTB := xw 1205 (by decide +kernel) (by decide +kernel)
set_option maxRecDepth 100000 in
theorem wd_1206 : Cond.instanceMethod ⟨"CapitalCase", "forget", "()I"⟩ ∈ xTB := xw 1206 (by decide +kernel) (by decide +kernel)
set_option maxRecDepth 100000 in
theorem wd_1207 : Cond.selects "CapitalCase" ⟨"CapitalCase", "forget", "()I"⟩ ⟨"CapitalCase", "forget", "()I"⟩ ∈ xTB := xw 1207 (by decide +kernel) (by decide +kernel)
set_option maxRecDepth 100000 in
theorem wd_1209 : Cond.methodLink "CapitalCaseLaw" 143 ⟨"CapitalCase", "whose", "(II)I"⟩ ∈ xTB := xw 1209 (by decide +kernel) (by decide +kernel)
set_option maxRecDepth 100000 in
theorem wd_1210 : Cond.instanceMethod ⟨"CapitalCase", "whose", "(II)I"⟩ ∈ xTB := xw 1210 (by decide +kernel) (by decide +kernel)
set_option maxRecDepth 100000 in
theorem wd_1211 : Cond.selects "CapitalCase" ⟨"CapitalCase", "whose", "(II)I"⟩ ⟨"CapitalCase", "whose", "(II)I"⟩ ∈ xTB := xw 1211 (by decide +kernel) (by decide +kernel)
set_option maxRecDepth 100000 in
theorem wd_1223 : Cond.methodLink "CapitalCaseLaw" 147 ⟨"CapitalCase", "ask", "(II)I"⟩ ∈ xTB := xw 1223 (by decide +kernel) (by decide +kernel)
set_option maxRecDepth 100000 in
theorem wd_1224 : Cond.instanceMethod ⟨"CapitalCase", "ask", "(II)I"⟩ ∈ xTB := xw 1224 (by decide +kernel) (by decide +kernel)
set_option maxRecDepth 100000 in
theorem wd_1225 : Cond.selects "CapitalCase" ⟨"CapitalCase", "ask", "(II)I"⟩ ⟨"CapitalCase", "ask", "(II)I"⟩ ∈ xTB := xw 1225 (by decide +kernel) (by decide +kernel)
set_option maxRecDepth 100000 in
theorem wd_1233 : Cond.methodLink "CapitalCaseLaw" 151 ⟨"CapitalCase", "hold", "(I)Z"⟩ ∈ xTB := xw 1233 (by decide +kernel) (by decide +kernel)
set_option maxRecDepth 100000 in
theorem wd_1234 : Cond.instanceMethod ⟨"CapitalCase", "hold", "(I)Z"⟩ ∈ xTB := xw 1234 (by decide +kernel) (by decide +kernel)
set_option maxRecDepth 100000 in
theorem wd_1235 : Cond.selects "CapitalCase" ⟨"CapitalCase", "hold", "(I)Z"⟩ ⟨"CapitalCase", "hold", "(I)Z"⟩ ∈ xTB := xw 1235 (by decide +kernel) (by decide +kernel)
set_option maxRecDepth 100000 in
theorem wd_1237 : Cond.methodLink "CapitalCaseLaw" 155 ⟨"CapitalCase", "restore", "(I)Z"⟩ ∈ xTB := xw 1237 (by decide +kernel) (by decide +kernel)
set_option maxRecDepth 100000 in
theorem wd_1238 : Cond.instanceMethod ⟨"CapitalCase", "restore", "(I)Z"⟩ ∈ xTB := xw 1238 (by decide +kernel) (by decide +kernel)
set_option maxRecDepth 100000 in
theorem wd_1239 : Cond.selects "CapitalCase" ⟨"CapitalCase", "restore", "(I)Z"⟩ ⟨"CapitalCase", "restore", "(I)Z"⟩ ∈ xTB := xw 1239 (by decide +kernel) (by decide +kernel)
set_option maxRecDepth 100000 in
theorem wd_1241 : Cond.methodLink "CapitalCaseLaw" 159 ⟨"CapitalCase", "count", "(I)I"⟩ ∈ xTB := xw 1241 (by decide +kernel) (by decide +kernel)
set_option maxRecDepth 100000 in
theorem wd_1242 : Cond.instanceMethod ⟨"CapitalCase", "count", "(I)I"⟩ ∈ xTB := xw 1242 (by decide +kernel) (by decide +kernel)
set_option maxRecDepth 100000 in
theorem wd_1243 : Cond.selects "CapitalCase" ⟨"CapitalCase", "count", "(I)I"⟩ ⟨"CapitalCase", "count", "(I)I"⟩ ∈ xTB := xw 1243 (by decide +kernel) (by decide +kernel)
set_option maxRecDepth 100000 in
theorem wd_1505 : Cond.methodLink "CapitalCaseLaw" 27 ⟨"CapitalCaseModel", "read", "()I"⟩ ∈ xTB := xw 1505 (by decide +kernel) (by decide +kernel)
set_option maxRecDepth 100000 in
theorem wd_1506 : Cond.instanceMethod ⟨"CapitalCaseModel", "read", "()I"⟩ ∈ xTB := xw 1506 (by decide +kernel) (by decide +kernel)
set_option maxRecDepth 100000 in
theorem wd_1507 : Cond.selects "CapitalCaseModel" ⟨"CapitalCaseModel", "read", "()I"⟩ ⟨"CapitalCaseModel", "read", "()I"⟩ ∈ xTB := xw 1507 (by decide +kernel) (by decide +kernel)
set_option maxRecDepth 100000 in
theorem wd_1617 : Cond.methodLink "CapitalCaseLaw" 31 ⟨"CapitalCaseModel", "place", "()I"⟩ ∈ xTB := xw 1617 (by decide +kernel) (by decide +kernel)
set_option maxRecDepth 100000 in
theorem wd_1618 : Cond.instanceMethod ⟨"CapitalCaseModel", "place", "()I"⟩ ∈ xTB := xw 1618 (by decide +kernel) (by decide +kernel)
set_option maxRecDepth 100000 in
theorem wd_1619 : Cond.selects "CapitalCaseModel" ⟨"CapitalCaseModel", "place", "()I"⟩ ⟨"CapitalCaseModel", "place", "()I"⟩ ∈ xTB := xw 1619 (by decide +kernel) (by decide +kernel)
set_option maxRecDepth 100000 in
theorem wd_1621 : Cond.methodLink "CapitalCaseLaw" 36 ⟨"CapitalCaseModel", "house", "(III)I"⟩ ∈ xTB := xw 1621 (by decide +kernel) (by decide +kernel)
set_option maxRecDepth 100000 in
theorem wd_1622 : Cond.instanceMethod ⟨"CapitalCaseModel", "house", "(III)I"⟩ ∈ xTB := xw 1622 (by decide +kernel) (by decide +kernel)
set_option maxRecDepth 100000 in
theorem wd_1623 : Cond.selects "CapitalCaseModel" ⟨"CapitalCaseModel", "house", "(III)I"⟩ ⟨"CapitalCaseModel", "house", "(III)I"⟩ ∈ xTB := xw 1623 (by decide +kernel) (by decide +kernel)
set_option maxRecDepth 100000 in
theorem wd_1674 : Cond.methodLink "CapitalCaseLaw" 41 ⟨"CapitalCaseModel", "verse", "(II)I"⟩ ∈ xTB := xw 1674 (by decide +kernel) (by decide +kernel)
set_option maxRecDepth 100000 in
theorem wd_1675 : Cond.instanceMethod ⟨"CapitalCaseModel", "verse", "(II)I"⟩ ∈ xTB := xw 1675 (by decide +kernel) (by decide +kernel)
set_option maxRecDepth 100000 in
theorem wd_1676 : Cond.selects "CapitalCaseModel" ⟨"CapitalCaseModel", "verse", "(II)I"⟩ ⟨"CapitalCaseModel", "verse", "(II)I"⟩ ∈ xTB := xw 1676 (by decide +kernel) (by decide +kernel)
set_option maxRecDepth 100000 in
theorem wd_1690 : Cond.methodLink "CapitalCaseLaw" 45 ⟨"CapitalCaseModel", "wants", "(II)I"⟩ ∈ xTB := xw 1690 (by decide +kernel) (by decide +kernel)
set_option maxRecDepth 100000 in
theorem wd_1691 : Cond.instanceMethod ⟨"CapitalCaseModel", "wants", "(II)I"⟩ ∈ xTB := xw 1691 (by decide +kernel) (by decide +kernel)
set_option maxRecDepth 100000 in
theorem wd_1692 : Cond.selects "CapitalCaseModel" ⟨"CapitalCaseModel", "wants", "(II)I"⟩ ⟨"CapitalCaseModel", "wants", "(II)I"⟩ ∈ xTB := xw 1692 (by decide +kernel) (by decide +kernel)
set_option maxRecDepth 100000 in
theorem wd_1694 : Cond.methodLink "CapitalCaseLaw" 50 ⟨"CapitalCaseModel", "tells", "(IIII)I"⟩ ∈ xTB := xw 1694 (by decide +kernel) (by decide +kernel)
set_option maxRecDepth 100000 in
theorem wd_1695 : Cond.instanceMethod ⟨"CapitalCaseModel", "tells", "(IIII)I"⟩ ∈ xTB := xw 1695 (by decide +kernel) (by decide +kernel)
set_option maxRecDepth 100000 in
theorem wd_1696 : Cond.selects "CapitalCaseModel" ⟨"CapitalCaseModel", "tells", "(IIII)I"⟩ ⟨"CapitalCaseModel", "tells", "(IIII)I"⟩ ∈ xTB := xw 1696 (by decide +kernel) (by decide +kernel)
set_option maxRecDepth 100000 in
theorem wd_1707 : Cond.methodLink "CapitalCaseLaw" 55 ⟨"CapitalCaseModel", "set", "(I)Z"⟩ ∈ xTB := xw 1707 (by decide +kernel) (by decide +kernel)
set_option maxRecDepth 100000 in
theorem wd_1708 : Cond.instanceMethod ⟨"CapitalCaseModel", "set", "(I)Z"⟩ ∈ xTB := xw 1708 (by decide +kernel) (by decide +kernel)
set_option maxRecDepth 100000 in
theorem wd_1709 : Cond.selects "CapitalCaseModel" ⟨"CapitalCaseModel", "set", "(I)Z"⟩ ⟨"CapitalCaseModel", "set", "(I)Z"⟩ ∈ xTB := xw 1709 (by decide +kernel) (by decide +kernel)
set_option maxRecDepth 100000 in
theorem wd_1731 : Cond.methodLink "CapitalCaseLaw" 59 ⟨"CapitalCaseModel", "clear", "(I)Z"⟩ ∈ xTB := xw 1731 (by decide +kernel) (by decide +kernel)
set_option maxRecDepth 100000 in
theorem wd_1732 : Cond.instanceMethod ⟨"CapitalCaseModel", "clear", "(I)Z"⟩ ∈ xTB := xw 1732 (by decide +kernel) (by decide +kernel)
set_option maxRecDepth 100000 in
theorem wd_1733 : Cond.selects "CapitalCaseModel" ⟨"CapitalCaseModel", "clear", "(I)Z"⟩ ⟨"CapitalCaseModel", "clear", "(I)Z"⟩ ∈ xTB := xw 1733 (by decide +kernel) (by decide +kernel)
set_option maxRecDepth 100000 in
theorem wd_1743 : Cond.methodLink "CapitalCaseLaw" 68 ⟨"CapitalCaseModel", "giveBack", "(III)Z"⟩ ∈ xTB := xw 1743 (by decide +kernel) (by decide +kernel)
set_option maxRecDepth 100000 in
theorem wd_1744 : Cond.instanceMethod ⟨"CapitalCaseModel", "giveBack", "(III)Z"⟩ ∈ xTB := xw 1744 (by decide +kernel) (by decide +kernel)
set_option maxRecDepth 100000 in
theorem wd_1745 : Cond.selects "CapitalCaseModel" ⟨"CapitalCaseModel", "giveBack", "(III)Z"⟩ ⟨"CapitalCaseModel", "giveBack", "(III)Z"⟩ ∈ xTB := xw 1745 (by decide +kernel) (by decide +kernel)
set_option maxRecDepth 100000 in
theorem wd_1747 : Cond.methodLink "CapitalCaseLaw" 72 ⟨"CapitalCaseModel", "days", "(I)I"⟩ ∈ xTB := xw 1747 (by decide +kernel) (by decide +kernel)
set_option maxRecDepth 100000 in
theorem wd_1748 : Cond.instanceMethod ⟨"CapitalCaseModel", "days", "(I)I"⟩ ∈ xTB := xw 1748 (by decide +kernel) (by decide +kernel)
set_option maxRecDepth 100000 in
theorem wd_1749 : Cond.selects "CapitalCaseModel" ⟨"CapitalCaseModel", "days", "(I)I"⟩ ⟨"CapitalCaseModel", "days", "(I)I"⟩ ∈ xTB := xw 1749 (by decide +kernel) (by decide +kernel)
set_option maxRecDepth 100000 in
theorem wd_1782 : Cond.methodLink "CapitalCaseLaw" 77 ⟨"CapitalCaseModel", "undo", "()Z"⟩ ∈ xTB := xw 1782 (by decide +kernel) (by decide +kernel)
set_option maxRecDepth 100000 in
theorem wd_1783 : Cond.instanceMethod ⟨"CapitalCaseModel", "undo", "()Z"⟩ ∈ xTB := xw 1783 (by decide +kernel) (by decide +kernel)
set_option maxRecDepth 100000 in
theorem wd_1784 : Cond.selects "CapitalCaseModel" ⟨"CapitalCaseModel", "undo", "()Z"⟩ ⟨"CapitalCaseModel", "undo", "()Z"⟩ ∈ xTB := xw 1784 (by decide +kernel) (by decide +kernel)
set_option maxRecDepth 100000 in
theorem wd_1786 : Cond.methodLink "CapitalCaseLaw" 81 ⟨"CapitalCaseModel", "from", "(II)I"⟩ ∈ xTB := xw 1786 (by decide +kernel) (by decide +kernel)
set_option maxRecDepth 100000 in
theorem wd_1787 : Cond.instanceMethod ⟨"CapitalCaseModel", "from", "(II)I"⟩ ∈ xTB := xw 1787 (by decide +kernel) (by decide +kernel)
set_option maxRecDepth 100000 in
theorem wd_1788 : Cond.selects "CapitalCaseModel" ⟨"CapitalCaseModel", "from", "(II)I"⟩ ⟨"CapitalCaseModel", "from", "(II)I"⟩ ∈ xTB := xw 1788 (by decide +kernel) (by decide +kernel)
set_option maxRecDepth 100000 in
theorem wd_1790 : Cond.methodLink "CapitalCaseLaw" 85 ⟨"CapitalCaseModel", "best", "(I)I"⟩ ∈ xTB := xw 1790 (by decide +kernel) (by decide +kernel)
set_option maxRecDepth 100000 in
theorem wd_1791 : Cond.instanceMethod ⟨"CapitalCaseModel", "best", "(I)I"⟩ ∈ xTB := xw 1791 (by decide +kernel) (by decide +kernel)
set_option maxRecDepth 100000 in
theorem wd_1792 : Cond.selects "CapitalCaseModel" ⟨"CapitalCaseModel", "best", "(I)I"⟩ ⟨"CapitalCaseModel", "best", "(I)I"⟩ ∈ xTB := xw 1792 (by decide +kernel) (by decide +kernel)
set_option maxRecDepth 100000 in
theorem wd_1810 : Cond.methodLink "CapitalCaseLaw" 89 ⟨"CapitalCaseModel", "worth", "(II)I"⟩ ∈ xTB := xw 1810 (by decide +kernel) (by decide +kernel)
set_option maxRecDepth 100000 in
theorem wd_1811 : Cond.instanceMethod ⟨"CapitalCaseModel", "worth", "(II)I"⟩ ∈ xTB := xw 1811 (by decide +kernel) (by decide +kernel)
set_option maxRecDepth 100000 in
theorem wd_1812 : Cond.selects "CapitalCaseModel" ⟨"CapitalCaseModel", "worth", "(II)I"⟩ ⟨"CapitalCaseModel", "worth", "(II)I"⟩ ∈ xTB := xw 1812 (by decide +kernel) (by decide +kernel)
set_option maxRecDepth 100000 in
theorem wd_1814 : Cond.methodLink "CapitalCaseLaw" 93 ⟨"CapitalCaseModel", "pillar", "(I)I"⟩ ∈ xTB := xw 1814 (by decide +kernel) (by decide +kernel)
set_option maxRecDepth 100000 in
theorem wd_1815 : Cond.instanceMethod ⟨"CapitalCaseModel", "pillar", "(I)I"⟩ ∈ xTB := xw 1815 (by decide +kernel) (by decide +kernel)
set_option maxRecDepth 100000 in
theorem wd_1816 : Cond.selects "CapitalCaseModel" ⟨"CapitalCaseModel", "pillar", "(I)I"⟩ ⟨"CapitalCaseModel", "pillar", "(I)I"⟩ ∈ xTB := xw 1816 (by decide +kernel) (by decide +kernel)
set_option maxRecDepth 100000 in
theorem wd_1818 : Cond.methodLink "CapitalCaseLaw" 97 ⟨"CapitalCaseModel", "twoDays", "(I)I"⟩ ∈ xTB := xw 1818 (by decide +kernel) (by decide +kernel)
set_option maxRecDepth 100000 in
theorem wd_1819 : Cond.instanceMethod ⟨"CapitalCaseModel", "twoDays", "(I)I"⟩ ∈ xTB := xw 1819 (by decide +kernel) (by decide +kernel)
set_option maxRecDepth 100000 in
theorem wd_1820 : Cond.selects "CapitalCaseModel" ⟨"CapitalCaseModel", "twoDays", "(I)I"⟩ ⟨"CapitalCaseModel", "twoDays", "(I)I"⟩ ∈ xTB := xw 1820 (by decide +kernel) (by decide +kernel)
set_option maxRecDepth 100000 in
theorem wd_1826 : Cond.methodLink "CapitalCaseLaw" 101 ⟨"CapitalCaseModel", "loans", "(II)I"⟩ ∈ xTB := xw 1826 (by decide +kernel) (by decide +kernel)
set_option maxRecDepth 100000 in
theorem wd_1827 : Cond.instanceMethod ⟨"CapitalCaseModel", "loans", "(II)I"⟩ ∈ xTB := xw 1827 (by decide +kernel) (by decide +kernel)
set_option maxRecDepth 100000 in
theorem wd_1828 : Cond.selects "CapitalCaseModel" ⟨"CapitalCaseModel", "loans", "(II)I"⟩ ⟨"CapitalCaseModel", "loans", "(II)I"⟩ ∈ xTB := xw 1828 (by decide +kernel) (by decide +kernel)
set_option maxRecDepth 100000 in
theorem wd_1834 : Cond.methodLink "CapitalCaseLaw" 105 ⟨"CapitalCaseModel", "bargains", "(I)I"⟩ ∈ xTB := xw 1834 (by decide +kernel) (by decide +kernel)
set_option maxRecDepth 100000 in
theorem wd_1835 : Cond.instanceMethod ⟨"CapitalCaseModel", "bargains", "(I)I"⟩ ∈ xTB := xw 1835 (by decide +kernel) (by decide +kernel)
set_option maxRecDepth 100000 in
theorem wd_1836 : Cond.selects "CapitalCaseModel" ⟨"CapitalCaseModel", "bargains", "(I)I"⟩ ⟨"CapitalCaseModel", "bargains", "(I)I"⟩ ∈ xTB := xw 1836 (by decide +kernel) (by decide +kernel)
set_option maxRecDepth 100000 in
theorem wd_1846 : Cond.methodLink "CapitalCaseLaw" 109 ⟨"CapitalCaseModel", "strike", "(I)I"⟩ ∈ xTB := xw 1846 (by decide +kernel) (by decide +kernel)
set_option maxRecDepth 100000 in
theorem wd_1847 : Cond.instanceMethod ⟨"CapitalCaseModel", "strike", "(I)I"⟩ ∈ xTB := xw 1847 (by decide +kernel) (by decide +kernel)
set_option maxRecDepth 100000 in
theorem wd_1848 : Cond.selects "CapitalCaseModel" ⟨"CapitalCaseModel", "strike", "(I)I"⟩ ⟨"CapitalCaseModel", "strike", "(I)I"⟩ ∈ xTB := xw 1848 (by decide +kernel) (by decide +kernel)
set_option maxRecDepth 100000 in
theorem wd_1850 : Cond.methodLink "CapitalCaseLaw" 113 ⟨"CapitalCaseModel", "clash", "(I)I"⟩ ∈ xTB := xw 1850 (by decide +kernel) (by decide +kernel)
set_option maxRecDepth 100000 in
theorem wd_1851 : Cond.instanceMethod ⟨"CapitalCaseModel", "clash", "(I)I"⟩ ∈ xTB := xw 1851 (by decide +kernel) (by decide +kernel)
set_option maxRecDepth 100000 in
theorem wd_1852 : Cond.selects "CapitalCaseModel" ⟨"CapitalCaseModel", "clash", "(I)I"⟩ ⟨"CapitalCaseModel", "clash", "(I)I"⟩ ∈ xTB := xw 1852 (by decide +kernel) (by decide +kernel)
set_option maxRecDepth 100000 in
theorem wd_1854 : Cond.methodLink "CapitalCaseLaw" 117 ⟨"CapitalCaseModel", "late", "()I"⟩ ∈ xTB := xw 1854 (by decide +kernel) (by decide +kernel)
set_option maxRecDepth 100000 in
theorem wd_1855 : Cond.instanceMethod ⟨"CapitalCaseModel", "late", "()I"⟩ ∈ xTB := xw 1855 (by decide +kernel) (by decide +kernel)
set_option maxRecDepth 100000 in
theorem wd_1856 : Cond.selects "CapitalCaseModel" ⟨"CapitalCaseModel", "late", "()I"⟩ ⟨"CapitalCaseModel", "late", "()I"⟩ ∈ xTB := xw 1856 (by decide +kernel) (by decide +kernel)
set_option maxRecDepth 100000 in
theorem wd_1858 : Cond.methodLink "CapitalCaseLaw" 121 ⟨"CapitalCaseModel", "wornOut", "(II)I"⟩ ∈ xTB := xw 1858 (by decide +kernel) (by decide +kernel)
set_option maxRecDepth 100000 in
theorem wd_1859 : Cond.instanceMethod ⟨"CapitalCaseModel", "wornOut", "(II)I"⟩ ∈ xTB := xw 1859 (by decide +kernel) (by decide +kernel)
set_option maxRecDepth 100000 in
theorem wd_1860 : Cond.selects "CapitalCaseModel" ⟨"CapitalCaseModel", "wornOut", "(II)I"⟩ ⟨"CapitalCaseModel", "wornOut", "(II)I"⟩ ∈ xTB := xw 1860 (by decide +kernel) (by decide +kernel)
set_option maxRecDepth 100000 in
theorem wd_1862 : Cond.methodLink "CapitalCaseLaw" 125 ⟨"CapitalCaseModel", "then", "(IIII)I"⟩ ∈ xTB := xw 1862 (by decide +kernel) (by decide +kernel)
set_option maxRecDepth 100000 in
theorem wd_1863 : Cond.instanceMethod ⟨"CapitalCaseModel", "then", "(IIII)I"⟩ ∈ xTB := xw 1863 (by decide +kernel) (by decide +kernel)
set_option maxRecDepth 100000 in
theorem wd_1864 : Cond.selects "CapitalCaseModel" ⟨"CapitalCaseModel", "then", "(IIII)I"⟩ ⟨"CapitalCaseModel", "then", "(IIII)I"⟩ ∈ xTB := xw 1864 (by decide +kernel) (by decide +kernel)
set_option maxRecDepth 100000 in
theorem wd_1866 : Cond.methodLink "CapitalCaseLaw" 129 ⟨"CapitalCaseModel", "paidIn", "(I)I"⟩ ∈ xTB := xw 1866 (by decide +kernel) (by decide +kernel)
set_option maxRecDepth 100000 in
theorem wd_1867 : Cond.instanceMethod ⟨"CapitalCaseModel", "paidIn", "(I)I"⟩ ∈ xTB := xw 1867 (by decide +kernel) (by decide +kernel)
set_option maxRecDepth 100000 in
theorem wd_1868 : Cond.selects "CapitalCaseModel" ⟨"CapitalCaseModel", "paidIn", "(I)I"⟩ ⟨"CapitalCaseModel", "paidIn", "(I)I"⟩ ∈ xTB := xw 1868 (by decide +kernel) (by decide +kernel)
set_option maxRecDepth 100000 in
theorem wd_1870 : Cond.methodLink "CapitalCaseLaw" 133 ⟨"CapitalCaseModel", "year", "(IIII)I"⟩ ∈ xTB := xw 1870 (by decide +kernel) (by decide +kernel)
set_option maxRecDepth 100000 in
theorem wd_1871 : Cond.instanceMethod ⟨"CapitalCaseModel", "year", "(IIII)I"⟩ ∈ xTB := xw 1871 (by decide +kernel) (by decide +kernel)
set_option maxRecDepth 100000 in
theorem wd_1872 : Cond.selects "CapitalCaseModel" ⟨"CapitalCaseModel", "year", "(IIII)I"⟩ ⟨"CapitalCaseModel", "year", "(IIII)I"⟩ ∈ xTB := xw 1872 (by decide +kernel) (by decide +kernel)
set_option maxRecDepth 100000 in
theorem wd_1874 : Cond.methodLink "CapitalCaseLaw" 138 ⟨"CapitalCaseModel", "tell", "(IIZ)I"⟩ ∈ xTB := xw 1874 (by decide +kernel) (by decide +kernel)
set_option maxRecDepth 100000 in
theorem wd_1875 : Cond.instanceMethod ⟨"CapitalCaseModel", "tell", "(IIZ)I"⟩ ∈ xTB := xw 1875 (by decide +kernel) (by decide +kernel)
set_option maxRecDepth 100000 in
theorem wd_1876 : Cond.selects "CapitalCaseModel" ⟨"CapitalCaseModel", "tell", "(IIZ)I"⟩ ⟨"CapitalCaseModel", "tell", "(IIZ)I"⟩ ∈ xTB := xw 1876 (by decide +kernel) (by decide +kernel)
set_option maxRecDepth 100000 in
theorem wd_1878 : Cond.methodLink "CapitalCaseLaw" 142 ⟨"CapitalCaseModel", "forget", "()I"⟩ ∈ xTB := xw 1878 (by decide +kernel) (by decide +kernel)
set_option maxRecDepth 100000 in
theorem wd_1879 : Cond.instanceMethod ⟨"CapitalCaseModel", "forget", "()I"⟩ ∈ xTB := xw 1879 (by decide +kernel) (by decide +kernel)
set_option maxRecDepth 100000 in
theorem wd_1880 : Cond.selects "CapitalCaseModel" ⟨"CapitalCaseModel", "forget", "()I"⟩ ⟨"CapitalCaseModel", "forget", "()I"⟩ ∈ xTB := xw 1880 (by decide +kernel) (by decide +kernel)
set_option maxRecDepth 100000 in
theorem wd_1882 : Cond.methodLink "CapitalCaseLaw" 146 ⟨"CapitalCaseModel", "whose", "(II)I"⟩ ∈ xTB := xw 1882 (by decide +kernel) (by decide +kernel)
set_option maxRecDepth 100000 in
theorem wd_1883 : Cond.instanceMethod ⟨"CapitalCaseModel", "whose", "(II)I"⟩ ∈ xTB := xw 1883 (by decide +kernel) (by decide +kernel)
set_option maxRecDepth 100000 in
theorem wd_1884 : Cond.selects "CapitalCaseModel" ⟨"CapitalCaseModel", "whose", "(II)I"⟩ ⟨"CapitalCaseModel", "whose", "(II)I"⟩ ∈ xTB := xw 1884 (by decide +kernel) (by decide +kernel)
set_option maxRecDepth 100000 in
theorem wd_1893 : Cond.methodLink "CapitalCaseLaw" 150 ⟨"CapitalCaseModel", "ask", "(II)I"⟩ ∈ xTB := xw 1893 (by decide +kernel) (by decide +kernel)
set_option maxRecDepth 100000 in
theorem wd_1894 : Cond.instanceMethod ⟨"CapitalCaseModel", "ask", "(II)I"⟩ ∈ xTB := xw 1894 (by decide +kernel) (by decide +kernel)
set_option maxRecDepth 100000 in
theorem wd_1895 : Cond.selects "CapitalCaseModel" ⟨"CapitalCaseModel", "ask", "(II)I"⟩ ⟨"CapitalCaseModel", "ask", "(II)I"⟩ ∈ xTB := xw 1895 (by decide +kernel) (by decide +kernel)
set_option maxRecDepth 100000 in
theorem wd_1897 : Cond.methodLink "CapitalCaseLaw" 154 ⟨"CapitalCaseModel", "hold", "(I)Z"⟩ ∈ xTB := xw 1897 (by decide +kernel) (by decide +kernel)
set_option maxRecDepth 100000 in
theorem wd_1898 : Cond.instanceMethod ⟨"CapitalCaseModel", "hold", "(I)Z"⟩ ∈ xTB := xw 1898 (by decide +kernel) (by decide +kernel)
set_option maxRecDepth 100000 in
theorem wd_1899 : Cond.selects "CapitalCaseModel" ⟨"CapitalCaseModel", "hold", "(I)Z"⟩ ⟨"CapitalCaseModel", "hold", "(I)Z"⟩ ∈ xTB := xw 1899 (by decide +kernel) (by decide +kernel)
set_option maxRecDepth 100000 in
theorem wd_1901 : Cond.methodLink "CapitalCaseLaw" 158 ⟨"CapitalCaseModel", "restore", "(I)Z"⟩ ∈ xTB := xw 1901 (by decide +kernel) (by decide +kernel)
set_option maxRecDepth 100000 in
theorem wd_1902 : Cond.instanceMethod ⟨"CapitalCaseModel", "restore", "(I)Z"⟩ ∈ xTB := xw 1902 (by decide +kernel) (by decide +kernel)
set_option maxRecDepth 100000 in
theorem wd_1903 : Cond.selects "CapitalCaseModel" ⟨"CapitalCaseModel", "restore", "(I)Z"⟩ ⟨"CapitalCaseModel", "restore", "(I)Z"⟩ ∈ xTB := xw 1903 (by decide +kernel) (by decide +kernel)
set_option maxRecDepth 100000 in
theorem wd_1905 : Cond.methodLink "CapitalCaseLaw" 162 ⟨"CapitalCaseModel", "count", "(I)I"⟩ ∈ xTB := xw 1905 (by decide +kernel) (by decide +kernel)
set_option maxRecDepth 100000 in
theorem wd_1906 : Cond.instanceMethod ⟨"CapitalCaseModel", "count", "(I)I"⟩ ∈ xTB := xw 1906 (by decide +kernel) (by decide +kernel)
set_option maxRecDepth 100000 in
theorem wd_1907 : Cond.selects "CapitalCaseModel" ⟨"CapitalCaseModel", "count", "(I)I"⟩ ⟨"CapitalCaseModel", "count", "(I)I"⟩ ∈ xTB := xw 1907 (by decide +kernel) (by decide +kernel)
theorem dW_274 : decode code 274 = .ok (.aload_n 1, 1) := by decide +kernel
theorem dW_275 : decode code 275 = .ok (.invokevirtual 23, 3) := by decide +kernel
theorem dW_278 : decode code 278 = .ok (.pop, 1) := by decide +kernel
theorem dW_279 : decode code 279 = .ok (.aload_n 2, 1) := by decide +kernel
theorem dW_280 : decode code 280 = .ok (.invokevirtual 27, 3) := by decide +kernel
theorem dW_283 : decode code 283 = .ok (.pop, 1) := by decide +kernel
theorem dW_284 : decode code 284 = .ok (.goto 965, 3) := by decide +kernel
theorem dW_287 : decode code 287 = .ok (.aload_n 1, 1) := by decide +kernel
theorem dW_288 : decode code 288 = .ok (.invokevirtual 28, 3) := by decide +kernel
theorem dW_291 : decode code 291 = .ok (.pop, 1) := by decide +kernel
theorem dW_292 : decode code 292 = .ok (.aload_n 2, 1) := by decide +kernel
theorem dW_293 : decode code 293 = .ok (.invokevirtual 31, 3) := by decide +kernel
theorem dW_296 : decode code 296 = .ok (.pop, 1) := by decide +kernel
theorem dW_297 : decode code 297 = .ok (.goto 952, 3) := by decide +kernel
theorem dW_300 : decode code 300 = .ok (.aload_n 1, 1) := by decide +kernel
theorem dW_301 : decode code 301 = .ok (.aload_n 0, 1) := by decide +kernel
theorem dW_302 : decode code 302 = .ok (.iload_n 3, 1) := by decide +kernel
theorem dW_303 : decode code 303 = .ok (.iconst 1, 1) := by decide +kernel
theorem dW_304 : decode code 304 = .ok (.iadd, 1) := by decide +kernel
theorem dW_305 : decode code 305 = .ok (.iaload, 1) := by decide +kernel
theorem dW_306 : decode code 306 = .ok (.aload_n 0, 1) := by decide +kernel
theorem dW_307 : decode code 307 = .ok (.iload_n 3, 1) := by decide +kernel
theorem dW_308 : decode code 308 = .ok (.iconst 2, 1) := by decide +kernel
theorem dW_309 : decode code 309 = .ok (.iadd, 1) := by decide +kernel
theorem dW_310 : decode code 310 = .ok (.iaload, 1) := by decide +kernel
theorem dW_311 : decode code 311 = .ok (.aload_n 0, 1) := by decide +kernel
theorem dW_312 : decode code 312 = .ok (.iload_n 3, 1) := by decide +kernel
theorem dW_313 : decode code 313 = .ok (.iconst 3, 1) := by decide +kernel
theorem dW_314 : decode code 314 = .ok (.iadd, 1) := by decide +kernel
theorem dW_315 : decode code 315 = .ok (.iaload, 1) := by decide +kernel
theorem dW_316 : decode code 316 = .ok (.invokevirtual 32, 3) := by decide +kernel
theorem dW_319 : decode code 319 = .ok (.pop, 1) := by decide +kernel
theorem dW_320 : decode code 320 = .ok (.aload_n 2, 1) := by decide +kernel
theorem dW_321 : decode code 321 = .ok (.aload_n 0, 1) := by decide +kernel
theorem dW_322 : decode code 322 = .ok (.iload_n 3, 1) := by decide +kernel
theorem dW_323 : decode code 323 = .ok (.iconst 1, 1) := by decide +kernel
theorem dW_324 : decode code 324 = .ok (.iadd, 1) := by decide +kernel
theorem dW_325 : decode code 325 = .ok (.iaload, 1) := by decide +kernel
theorem dW_326 : decode code 326 = .ok (.aload_n 0, 1) := by decide +kernel
theorem dW_327 : decode code 327 = .ok (.iload_n 3, 1) := by decide +kernel
theorem dW_328 : decode code 328 = .ok (.iconst 2, 1) := by decide +kernel
theorem dW_329 : decode code 329 = .ok (.iadd, 1) := by decide +kernel
theorem dW_330 : decode code 330 = .ok (.iaload, 1) := by decide +kernel
theorem dW_331 : decode code 331 = .ok (.aload_n 0, 1) := by decide +kernel
theorem dW_332 : decode code 332 = .ok (.iload_n 3, 1) := by decide +kernel
theorem dW_333 : decode code 333 = .ok (.iconst 3, 1) := by decide +kernel
theorem dW_334 : decode code 334 = .ok (.iadd, 1) := by decide +kernel
theorem dW_335 : decode code 335 = .ok (.iaload, 1) := by decide +kernel
theorem dW_336 : decode code 336 = .ok (.invokevirtual 36, 3) := by decide +kernel
theorem dW_339 : decode code 339 = .ok (.pop, 1) := by decide +kernel
theorem dW_340 : decode code 340 = .ok (.goto 909, 3) := by decide +kernel
theorem dW_343 : decode code 343 = .ok (.aload_n 1, 1) := by decide +kernel
theorem dW_344 : decode code 344 = .ok (.aload_n 0, 1) := by decide +kernel
theorem dW_345 : decode code 345 = .ok (.iload_n 3, 1) := by decide +kernel
theorem dW_346 : decode code 346 = .ok (.iconst 1, 1) := by decide +kernel
theorem dW_347 : decode code 347 = .ok (.iadd, 1) := by decide +kernel
theorem dW_348 : decode code 348 = .ok (.iaload, 1) := by decide +kernel
theorem dW_349 : decode code 349 = .ok (.aload_n 0, 1) := by decide +kernel
theorem dW_350 : decode code 350 = .ok (.iload_n 3, 1) := by decide +kernel
theorem dW_351 : decode code 351 = .ok (.iconst 2, 1) := by decide +kernel
theorem dW_352 : decode code 352 = .ok (.iadd, 1) := by decide +kernel
theorem dW_353 : decode code 353 = .ok (.iaload, 1) := by decide +kernel
theorem dW_354 : decode code 354 = .ok (.invokevirtual 37, 3) := by decide +kernel
theorem dW_357 : decode code 357 = .ok (.pop, 1) := by decide +kernel
theorem dW_358 : decode code 358 = .ok (.aload_n 2, 1) := by decide +kernel
theorem dW_359 : decode code 359 = .ok (.aload_n 0, 1) := by decide +kernel
theorem dW_360 : decode code 360 = .ok (.iload_n 3, 1) := by decide +kernel
theorem dW_361 : decode code 361 = .ok (.iconst 1, 1) := by decide +kernel
theorem dW_362 : decode code 362 = .ok (.iadd, 1) := by decide +kernel
theorem dW_363 : decode code 363 = .ok (.iaload, 1) := by decide +kernel
theorem dW_364 : decode code 364 = .ok (.aload_n 0, 1) := by decide +kernel
theorem dW_365 : decode code 365 = .ok (.iload_n 3, 1) := by decide +kernel
theorem dW_366 : decode code 366 = .ok (.iconst 2, 1) := by decide +kernel
theorem dW_367 : decode code 367 = .ok (.iadd, 1) := by decide +kernel
theorem dW_368 : decode code 368 = .ok (.iaload, 1) := by decide +kernel
theorem dW_369 : decode code 369 = .ok (.invokevirtual 41, 3) := by decide +kernel
theorem dW_372 : decode code 372 = .ok (.pop, 1) := by decide +kernel
theorem dW_373 : decode code 373 = .ok (.goto 876, 3) := by decide +kernel
theorem dW_376 : decode code 376 = .ok (.aload_n 1, 1) := by decide +kernel
theorem dW_377 : decode code 377 = .ok (.aload_n 0, 1) := by decide +kernel
theorem dW_378 : decode code 378 = .ok (.iload_n 3, 1) := by decide +kernel
theorem dW_379 : decode code 379 = .ok (.iconst 1, 1) := by decide +kernel
theorem dW_380 : decode code 380 = .ok (.iadd, 1) := by decide +kernel
theorem dW_381 : decode code 381 = .ok (.iaload, 1) := by decide +kernel
theorem dW_382 : decode code 382 = .ok (.aload_n 0, 1) := by decide +kernel
theorem dW_383 : decode code 383 = .ok (.iload_n 3, 1) := by decide +kernel
theorem dW_384 : decode code 384 = .ok (.iconst 2, 1) := by decide +kernel
theorem dW_385 : decode code 385 = .ok (.iadd, 1) := by decide +kernel
theorem dW_386 : decode code 386 = .ok (.iaload, 1) := by decide +kernel
theorem dW_387 : decode code 387 = .ok (.invokevirtual 42, 3) := by decide +kernel
theorem dW_390 : decode code 390 = .ok (.pop, 1) := by decide +kernel
theorem dW_391 : decode code 391 = .ok (.aload_n 2, 1) := by decide +kernel
theorem dW_392 : decode code 392 = .ok (.aload_n 0, 1) := by decide +kernel
theorem dW_393 : decode code 393 = .ok (.iload_n 3, 1) := by decide +kernel
theorem dW_394 : decode code 394 = .ok (.iconst 1, 1) := by decide +kernel
theorem dW_395 : decode code 395 = .ok (.iadd, 1) := by decide +kernel
theorem dW_396 : decode code 396 = .ok (.iaload, 1) := by decide +kernel
theorem dW_397 : decode code 397 = .ok (.aload_n 0, 1) := by decide +kernel
theorem dW_398 : decode code 398 = .ok (.iload_n 3, 1) := by decide +kernel
theorem dW_399 : decode code 399 = .ok (.iconst 2, 1) := by decide +kernel
theorem dW_400 : decode code 400 = .ok (.iadd, 1) := by decide +kernel
theorem dW_401 : decode code 401 = .ok (.iaload, 1) := by decide +kernel
theorem dW_402 : decode code 402 = .ok (.invokevirtual 45, 3) := by decide +kernel
theorem dW_405 : decode code 405 = .ok (.pop, 1) := by decide +kernel
theorem dW_406 : decode code 406 = .ok (.goto 843, 3) := by decide +kernel
theorem dW_409 : decode code 409 = .ok (.aload_n 1, 1) := by decide +kernel
theorem dW_410 : decode code 410 = .ok (.aload_n 0, 1) := by decide +kernel
theorem dW_411 : decode code 411 = .ok (.iload_n 3, 1) := by decide +kernel
theorem dW_412 : decode code 412 = .ok (.iconst 1, 1) := by decide +kernel
theorem dW_413 : decode code 413 = .ok (.iadd, 1) := by decide +kernel
theorem dW_414 : decode code 414 = .ok (.iaload, 1) := by decide +kernel
theorem dW_415 : decode code 415 = .ok (.aload_n 0, 1) := by decide +kernel
theorem dW_416 : decode code 416 = .ok (.iload_n 3, 1) := by decide +kernel
theorem dW_417 : decode code 417 = .ok (.iconst 2, 1) := by decide +kernel
theorem dW_418 : decode code 418 = .ok (.iadd, 1) := by decide +kernel
theorem dW_419 : decode code 419 = .ok (.iaload, 1) := by decide +kernel
theorem dW_420 : decode code 420 = .ok (.aload_n 0, 1) := by decide +kernel
theorem dW_421 : decode code 421 = .ok (.iload_n 3, 1) := by decide +kernel
theorem dW_422 : decode code 422 = .ok (.iconst 3, 1) := by decide +kernel
theorem dW_423 : decode code 423 = .ok (.iadd, 1) := by decide +kernel
theorem dW_424 : decode code 424 = .ok (.iaload, 1) := by decide +kernel
theorem dW_425 : decode code 425 = .ok (.aload_n 0, 1) := by decide +kernel
theorem dW_426 : decode code 426 = .ok (.iload_n 3, 1) := by decide +kernel
theorem dW_427 : decode code 427 = .ok (.iconst 4, 1) := by decide +kernel
theorem dW_428 : decode code 428 = .ok (.iadd, 1) := by decide +kernel
theorem dW_429 : decode code 429 = .ok (.iaload, 1) := by decide +kernel
theorem dW_430 : decode code 430 = .ok (.invokevirtual 46, 3) := by decide +kernel
theorem dW_433 : decode code 433 = .ok (.pop, 1) := by decide +kernel
theorem dW_434 : decode code 434 = .ok (.aload_n 2, 1) := by decide +kernel
theorem dW_435 : decode code 435 = .ok (.aload_n 0, 1) := by decide +kernel
theorem dW_436 : decode code 436 = .ok (.iload_n 3, 1) := by decide +kernel
theorem dW_437 : decode code 437 = .ok (.iconst 1, 1) := by decide +kernel
theorem dW_438 : decode code 438 = .ok (.iadd, 1) := by decide +kernel
theorem dW_439 : decode code 439 = .ok (.iaload, 1) := by decide +kernel
theorem dW_440 : decode code 440 = .ok (.aload_n 0, 1) := by decide +kernel
theorem dW_441 : decode code 441 = .ok (.iload_n 3, 1) := by decide +kernel
theorem dW_442 : decode code 442 = .ok (.iconst 2, 1) := by decide +kernel
theorem dW_443 : decode code 443 = .ok (.iadd, 1) := by decide +kernel
theorem dW_444 : decode code 444 = .ok (.iaload, 1) := by decide +kernel
theorem dW_445 : decode code 445 = .ok (.aload_n 0, 1) := by decide +kernel
theorem dW_446 : decode code 446 = .ok (.iload_n 3, 1) := by decide +kernel
theorem dW_447 : decode code 447 = .ok (.iconst 3, 1) := by decide +kernel
theorem dW_448 : decode code 448 = .ok (.iadd, 1) := by decide +kernel
theorem dW_449 : decode code 449 = .ok (.iaload, 1) := by decide +kernel
theorem dW_450 : decode code 450 = .ok (.aload_n 0, 1) := by decide +kernel
theorem dW_451 : decode code 451 = .ok (.iload_n 3, 1) := by decide +kernel
theorem dW_452 : decode code 452 = .ok (.iconst 4, 1) := by decide +kernel
theorem dW_453 : decode code 453 = .ok (.iadd, 1) := by decide +kernel
theorem dW_454 : decode code 454 = .ok (.iaload, 1) := by decide +kernel
theorem dW_455 : decode code 455 = .ok (.invokevirtual 50, 3) := by decide +kernel
theorem dW_458 : decode code 458 = .ok (.pop, 1) := by decide +kernel
theorem dW_459 : decode code 459 = .ok (.goto 790, 3) := by decide +kernel
theorem dW_462 : decode code 462 = .ok (.aload_n 1, 1) := by decide +kernel
theorem dW_463 : decode code 463 = .ok (.aload_n 0, 1) := by decide +kernel
theorem dW_464 : decode code 464 = .ok (.iload_n 3, 1) := by decide +kernel
theorem dW_465 : decode code 465 = .ok (.iconst 1, 1) := by decide +kernel
theorem dW_466 : decode code 466 = .ok (.iadd, 1) := by decide +kernel
theorem dW_467 : decode code 467 = .ok (.iaload, 1) := by decide +kernel
theorem dW_468 : decode code 468 = .ok (.invokevirtual 51, 3) := by decide +kernel
theorem dW_471 : decode code 471 = .ok (.pop, 1) := by decide +kernel
theorem dW_472 : decode code 472 = .ok (.aload_n 2, 1) := by decide +kernel
theorem dW_473 : decode code 473 = .ok (.aload_n 0, 1) := by decide +kernel
theorem dW_474 : decode code 474 = .ok (.iload_n 3, 1) := by decide +kernel
theorem dW_475 : decode code 475 = .ok (.iconst 1, 1) := by decide +kernel
theorem dW_476 : decode code 476 = .ok (.iadd, 1) := by decide +kernel
theorem dW_477 : decode code 477 = .ok (.iaload, 1) := by decide +kernel
theorem dW_478 : decode code 478 = .ok (.invokevirtual 55, 3) := by decide +kernel
theorem dW_481 : decode code 481 = .ok (.pop, 1) := by decide +kernel
theorem dW_482 : decode code 482 = .ok (.goto 767, 3) := by decide +kernel
theorem dW_485 : decode code 485 = .ok (.aload_n 1, 1) := by decide +kernel
theorem dW_486 : decode code 486 = .ok (.aload_n 0, 1) := by decide +kernel
theorem dW_487 : decode code 487 = .ok (.iload_n 3, 1) := by decide +kernel
theorem dW_488 : decode code 488 = .ok (.iconst 1, 1) := by decide +kernel
theorem dW_489 : decode code 489 = .ok (.iadd, 1) := by decide +kernel
theorem dW_490 : decode code 490 = .ok (.iaload, 1) := by decide +kernel
theorem dW_491 : decode code 491 = .ok (.invokevirtual 56, 3) := by decide +kernel
theorem dW_494 : decode code 494 = .ok (.pop, 1) := by decide +kernel
theorem dW_495 : decode code 495 = .ok (.aload_n 2, 1) := by decide +kernel
theorem dW_496 : decode code 496 = .ok (.aload_n 0, 1) := by decide +kernel
theorem dW_497 : decode code 497 = .ok (.iload_n 3, 1) := by decide +kernel
theorem dW_498 : decode code 498 = .ok (.iconst 1, 1) := by decide +kernel
theorem dW_499 : decode code 499 = .ok (.iadd, 1) := by decide +kernel
theorem dW_500 : decode code 500 = .ok (.iaload, 1) := by decide +kernel
theorem dW_501 : decode code 501 = .ok (.invokevirtual 59, 3) := by decide +kernel
theorem dW_504 : decode code 504 = .ok (.pop, 1) := by decide +kernel
theorem dW_505 : decode code 505 = .ok (.goto 744, 3) := by decide +kernel
theorem dW_551 : decode code 551 = .ok (.aload_n 1, 1) := by decide +kernel
theorem dW_552 : decode code 552 = .ok (.aload_n 0, 1) := by decide +kernel
theorem dW_553 : decode code 553 = .ok (.iload_n 3, 1) := by decide +kernel
theorem dW_554 : decode code 554 = .ok (.iconst 1, 1) := by decide +kernel
theorem dW_555 : decode code 555 = .ok (.iadd, 1) := by decide +kernel
theorem dW_556 : decode code 556 = .ok (.iaload, 1) := by decide +kernel
theorem dW_557 : decode code 557 = .ok (.aload_n 0, 1) := by decide +kernel
theorem dW_558 : decode code 558 = .ok (.iload_n 3, 1) := by decide +kernel
theorem dW_559 : decode code 559 = .ok (.iconst 2, 1) := by decide +kernel
theorem dW_560 : decode code 560 = .ok (.iadd, 1) := by decide +kernel
theorem dW_561 : decode code 561 = .ok (.iaload, 1) := by decide +kernel
theorem dW_562 : decode code 562 = .ok (.aload_n 0, 1) := by decide +kernel
theorem dW_563 : decode code 563 = .ok (.iload_n 3, 1) := by decide +kernel
theorem dW_564 : decode code 564 = .ok (.iconst 3, 1) := by decide +kernel
theorem dW_565 : decode code 565 = .ok (.iadd, 1) := by decide +kernel
theorem dW_566 : decode code 566 = .ok (.iaload, 1) := by decide +kernel
theorem dW_567 : decode code 567 = .ok (.invokevirtual 65, 3) := by decide +kernel
theorem dW_570 : decode code 570 = .ok (.pop, 1) := by decide +kernel
theorem dW_571 : decode code 571 = .ok (.aload_n 2, 1) := by decide +kernel
theorem dW_572 : decode code 572 = .ok (.aload_n 0, 1) := by decide +kernel
theorem dW_573 : decode code 573 = .ok (.iload_n 3, 1) := by decide +kernel
theorem dW_574 : decode code 574 = .ok (.iconst 1, 1) := by decide +kernel
theorem dW_575 : decode code 575 = .ok (.iadd, 1) := by decide +kernel
theorem dW_576 : decode code 576 = .ok (.iaload, 1) := by decide +kernel
theorem dW_577 : decode code 577 = .ok (.aload_n 0, 1) := by decide +kernel
theorem dW_578 : decode code 578 = .ok (.iload_n 3, 1) := by decide +kernel
theorem dW_579 : decode code 579 = .ok (.iconst 2, 1) := by decide +kernel
theorem dW_580 : decode code 580 = .ok (.iadd, 1) := by decide +kernel
theorem dW_581 : decode code 581 = .ok (.iaload, 1) := by decide +kernel
theorem dW_582 : decode code 582 = .ok (.aload_n 0, 1) := by decide +kernel
theorem dW_583 : decode code 583 = .ok (.iload_n 3, 1) := by decide +kernel
theorem dW_584 : decode code 584 = .ok (.iconst 3, 1) := by decide +kernel
theorem dW_585 : decode code 585 = .ok (.iadd, 1) := by decide +kernel
theorem dW_586 : decode code 586 = .ok (.iaload, 1) := by decide +kernel
theorem dW_587 : decode code 587 = .ok (.invokevirtual 68, 3) := by decide +kernel
theorem dW_590 : decode code 590 = .ok (.pop, 1) := by decide +kernel
theorem dW_591 : decode code 591 = .ok (.goto 658, 3) := by decide +kernel
theorem dW_594 : decode code 594 = .ok (.aload_n 1, 1) := by decide +kernel
theorem dW_595 : decode code 595 = .ok (.aload_n 0, 1) := by decide +kernel
theorem dW_596 : decode code 596 = .ok (.iload_n 3, 1) := by decide +kernel
theorem dW_597 : decode code 597 = .ok (.iconst 1, 1) := by decide +kernel
theorem dW_598 : decode code 598 = .ok (.iadd, 1) := by decide +kernel
theorem dW_599 : decode code 599 = .ok (.iaload, 1) := by decide +kernel
theorem dW_600 : decode code 600 = .ok (.invokevirtual 69, 3) := by decide +kernel
theorem dW_603 : decode code 603 = .ok (.pop, 1) := by decide +kernel
theorem dW_604 : decode code 604 = .ok (.aload_n 2, 1) := by decide +kernel
theorem dW_605 : decode code 605 = .ok (.aload_n 0, 1) := by decide +kernel
theorem dW_606 : decode code 606 = .ok (.iload_n 3, 1) := by decide +kernel
theorem dW_607 : decode code 607 = .ok (.iconst 1, 1) := by decide +kernel
theorem dW_608 : decode code 608 = .ok (.iadd, 1) := by decide +kernel
theorem dW_609 : decode code 609 = .ok (.iaload, 1) := by decide +kernel
theorem dW_610 : decode code 610 = .ok (.invokevirtual 72, 3) := by decide +kernel
theorem dW_613 : decode code 613 = .ok (.pop, 1) := by decide +kernel
theorem dW_614 : decode code 614 = .ok (.goto 635, 3) := by decide +kernel
theorem dW_617 : decode code 617 = .ok (.aload_n 1, 1) := by decide +kernel
theorem dW_618 : decode code 618 = .ok (.invokevirtual 73, 3) := by decide +kernel
theorem dW_621 : decode code 621 = .ok (.pop, 1) := by decide +kernel
theorem dW_622 : decode code 622 = .ok (.aload_n 2, 1) := by decide +kernel
theorem dW_623 : decode code 623 = .ok (.invokevirtual 77, 3) := by decide +kernel
theorem dW_626 : decode code 626 = .ok (.pop, 1) := by decide +kernel
theorem dW_627 : decode code 627 = .ok (.goto 622, 3) := by decide +kernel
theorem dW_630 : decode code 630 = .ok (.aload_n 1, 1) := by decide +kernel
theorem dW_631 : decode code 631 = .ok (.aload_n 0, 1) := by decide +kernel
theorem dW_632 : decode code 632 = .ok (.iload_n 3, 1) := by decide +kernel
theorem dW_633 : decode code 633 = .ok (.iconst 1, 1) := by decide +kernel
theorem dW_634 : decode code 634 = .ok (.iadd, 1) := by decide +kernel
theorem dW_635 : decode code 635 = .ok (.iaload, 1) := by decide +kernel
theorem dW_636 : decode code 636 = .ok (.aload_n 0, 1) := by decide +kernel
theorem dW_637 : decode code 637 = .ok (.iload_n 3, 1) := by decide +kernel
theorem dW_638 : decode code 638 = .ok (.iconst 2, 1) := by decide +kernel
theorem dW_639 : decode code 639 = .ok (.iadd, 1) := by decide +kernel
theorem dW_640 : decode code 640 = .ok (.iaload, 1) := by decide +kernel
theorem dW_641 : decode code 641 = .ok (.invokevirtual 78, 3) := by decide +kernel
theorem dW_644 : decode code 644 = .ok (.pop, 1) := by decide +kernel
theorem dW_645 : decode code 645 = .ok (.aload_n 2, 1) := by decide +kernel
theorem dW_646 : decode code 646 = .ok (.aload_n 0, 1) := by decide +kernel
theorem dW_647 : decode code 647 = .ok (.iload_n 3, 1) := by decide +kernel
theorem dW_648 : decode code 648 = .ok (.iconst 1, 1) := by decide +kernel
theorem dW_649 : decode code 649 = .ok (.iadd, 1) := by decide +kernel
theorem dW_650 : decode code 650 = .ok (.iaload, 1) := by decide +kernel
theorem dW_651 : decode code 651 = .ok (.aload_n 0, 1) := by decide +kernel
theorem dW_652 : decode code 652 = .ok (.iload_n 3, 1) := by decide +kernel
theorem dW_653 : decode code 653 = .ok (.iconst 2, 1) := by decide +kernel
theorem dW_654 : decode code 654 = .ok (.iadd, 1) := by decide +kernel
theorem dW_655 : decode code 655 = .ok (.iaload, 1) := by decide +kernel
theorem dW_656 : decode code 656 = .ok (.invokevirtual 81, 3) := by decide +kernel
theorem dW_659 : decode code 659 = .ok (.pop, 1) := by decide +kernel
theorem dW_660 : decode code 660 = .ok (.goto 589, 3) := by decide +kernel
theorem dW_663 : decode code 663 = .ok (.aload_n 1, 1) := by decide +kernel
theorem dW_664 : decode code 664 = .ok (.aload_n 0, 1) := by decide +kernel
theorem dW_665 : decode code 665 = .ok (.iload_n 3, 1) := by decide +kernel
theorem dW_666 : decode code 666 = .ok (.iconst 1, 1) := by decide +kernel
theorem dW_667 : decode code 667 = .ok (.iadd, 1) := by decide +kernel
theorem dW_668 : decode code 668 = .ok (.iaload, 1) := by decide +kernel
theorem dW_669 : decode code 669 = .ok (.invokevirtual 82, 3) := by decide +kernel
theorem dW_672 : decode code 672 = .ok (.pop, 1) := by decide +kernel
theorem dW_673 : decode code 673 = .ok (.aload_n 2, 1) := by decide +kernel
theorem dW_674 : decode code 674 = .ok (.aload_n 0, 1) := by decide +kernel
theorem dW_675 : decode code 675 = .ok (.iload_n 3, 1) := by decide +kernel
theorem dW_676 : decode code 676 = .ok (.iconst 1, 1) := by decide +kernel
theorem dW_677 : decode code 677 = .ok (.iadd, 1) := by decide +kernel
theorem dW_678 : decode code 678 = .ok (.iaload, 1) := by decide +kernel
theorem dW_679 : decode code 679 = .ok (.invokevirtual 85, 3) := by decide +kernel
theorem dW_682 : decode code 682 = .ok (.pop, 1) := by decide +kernel
theorem dW_683 : decode code 683 = .ok (.goto 566, 3) := by decide +kernel
theorem dW_686 : decode code 686 = .ok (.aload_n 1, 1) := by decide +kernel
theorem dW_687 : decode code 687 = .ok (.aload_n 0, 1) := by decide +kernel
theorem dW_688 : decode code 688 = .ok (.iload_n 3, 1) := by decide +kernel
theorem dW_689 : decode code 689 = .ok (.iconst 1, 1) := by decide +kernel
theorem dW_690 : decode code 690 = .ok (.iadd, 1) := by decide +kernel
theorem dW_691 : decode code 691 = .ok (.iaload, 1) := by decide +kernel
theorem dW_692 : decode code 692 = .ok (.aload_n 0, 1) := by decide +kernel
theorem dW_693 : decode code 693 = .ok (.iload_n 3, 1) := by decide +kernel
theorem dW_694 : decode code 694 = .ok (.iconst 2, 1) := by decide +kernel
theorem dW_695 : decode code 695 = .ok (.iadd, 1) := by decide +kernel
theorem dW_696 : decode code 696 = .ok (.iaload, 1) := by decide +kernel
theorem dW_697 : decode code 697 = .ok (.invokevirtual 86, 3) := by decide +kernel
theorem dW_700 : decode code 700 = .ok (.pop, 1) := by decide +kernel
theorem dW_701 : decode code 701 = .ok (.aload_n 2, 1) := by decide +kernel
theorem dW_702 : decode code 702 = .ok (.aload_n 0, 1) := by decide +kernel
theorem dW_703 : decode code 703 = .ok (.iload_n 3, 1) := by decide +kernel
theorem dW_704 : decode code 704 = .ok (.iconst 1, 1) := by decide +kernel
theorem dW_705 : decode code 705 = .ok (.iadd, 1) := by decide +kernel
theorem dW_706 : decode code 706 = .ok (.iaload, 1) := by decide +kernel
theorem dW_707 : decode code 707 = .ok (.aload_n 0, 1) := by decide +kernel
theorem dW_708 : decode code 708 = .ok (.iload_n 3, 1) := by decide +kernel
theorem dW_709 : decode code 709 = .ok (.iconst 2, 1) := by decide +kernel
theorem dW_710 : decode code 710 = .ok (.iadd, 1) := by decide +kernel
theorem dW_711 : decode code 711 = .ok (.iaload, 1) := by decide +kernel
theorem dW_712 : decode code 712 = .ok (.invokevirtual 89, 3) := by decide +kernel
theorem dW_715 : decode code 715 = .ok (.pop, 1) := by decide +kernel
theorem dW_716 : decode code 716 = .ok (.goto 533, 3) := by decide +kernel
theorem dW_719 : decode code 719 = .ok (.aload_n 1, 1) := by decide +kernel
theorem dW_720 : decode code 720 = .ok (.aload_n 0, 1) := by decide +kernel
theorem dW_721 : decode code 721 = .ok (.iload_n 3, 1) := by decide +kernel
theorem dW_722 : decode code 722 = .ok (.iconst 1, 1) := by decide +kernel
theorem dW_723 : decode code 723 = .ok (.iadd, 1) := by decide +kernel
theorem dW_724 : decode code 724 = .ok (.iaload, 1) := by decide +kernel
theorem dW_725 : decode code 725 = .ok (.invokevirtual 90, 3) := by decide +kernel
theorem dW_728 : decode code 728 = .ok (.pop, 1) := by decide +kernel
theorem dW_729 : decode code 729 = .ok (.aload_n 2, 1) := by decide +kernel
theorem dW_730 : decode code 730 = .ok (.aload_n 0, 1) := by decide +kernel
theorem dW_731 : decode code 731 = .ok (.iload_n 3, 1) := by decide +kernel
theorem dW_732 : decode code 732 = .ok (.iconst 1, 1) := by decide +kernel
theorem dW_733 : decode code 733 = .ok (.iadd, 1) := by decide +kernel
theorem dW_734 : decode code 734 = .ok (.iaload, 1) := by decide +kernel
theorem dW_735 : decode code 735 = .ok (.invokevirtual 93, 3) := by decide +kernel
theorem dW_738 : decode code 738 = .ok (.pop, 1) := by decide +kernel
theorem dW_739 : decode code 739 = .ok (.goto 510, 3) := by decide +kernel
theorem dW_742 : decode code 742 = .ok (.aload_n 1, 1) := by decide +kernel
theorem dW_743 : decode code 743 = .ok (.aload_n 0, 1) := by decide +kernel
theorem dW_744 : decode code 744 = .ok (.iload_n 3, 1) := by decide +kernel
theorem dW_745 : decode code 745 = .ok (.iconst 1, 1) := by decide +kernel
theorem dW_746 : decode code 746 = .ok (.iadd, 1) := by decide +kernel
theorem dW_747 : decode code 747 = .ok (.iaload, 1) := by decide +kernel
theorem dW_748 : decode code 748 = .ok (.invokevirtual 94, 3) := by decide +kernel
theorem dW_751 : decode code 751 = .ok (.pop, 1) := by decide +kernel
theorem dW_752 : decode code 752 = .ok (.aload_n 2, 1) := by decide +kernel
theorem dW_753 : decode code 753 = .ok (.aload_n 0, 1) := by decide +kernel
theorem dW_754 : decode code 754 = .ok (.iload_n 3, 1) := by decide +kernel
theorem dW_755 : decode code 755 = .ok (.iconst 1, 1) := by decide +kernel
theorem dW_756 : decode code 756 = .ok (.iadd, 1) := by decide +kernel
theorem dW_757 : decode code 757 = .ok (.iaload, 1) := by decide +kernel
theorem dW_758 : decode code 758 = .ok (.invokevirtual 97, 3) := by decide +kernel
theorem dW_761 : decode code 761 = .ok (.pop, 1) := by decide +kernel
theorem dW_762 : decode code 762 = .ok (.goto 487, 3) := by decide +kernel
theorem dW_765 : decode code 765 = .ok (.aload_n 1, 1) := by decide +kernel
theorem dW_766 : decode code 766 = .ok (.aload_n 0, 1) := by decide +kernel
theorem dW_767 : decode code 767 = .ok (.iload_n 3, 1) := by decide +kernel
theorem dW_768 : decode code 768 = .ok (.iconst 1, 1) := by decide +kernel
theorem dW_769 : decode code 769 = .ok (.iadd, 1) := by decide +kernel
theorem dW_770 : decode code 770 = .ok (.iaload, 1) := by decide +kernel
theorem dW_771 : decode code 771 = .ok (.aload_n 0, 1) := by decide +kernel
theorem dW_772 : decode code 772 = .ok (.iload_n 3, 1) := by decide +kernel
theorem dW_773 : decode code 773 = .ok (.iconst 2, 1) := by decide +kernel
theorem dW_774 : decode code 774 = .ok (.iadd, 1) := by decide +kernel
theorem dW_775 : decode code 775 = .ok (.iaload, 1) := by decide +kernel
theorem dW_776 : decode code 776 = .ok (.invokevirtual 98, 3) := by decide +kernel
theorem dW_779 : decode code 779 = .ok (.pop, 1) := by decide +kernel
theorem dW_780 : decode code 780 = .ok (.aload_n 2, 1) := by decide +kernel
theorem dW_781 : decode code 781 = .ok (.aload_n 0, 1) := by decide +kernel
theorem dW_782 : decode code 782 = .ok (.iload_n 3, 1) := by decide +kernel
theorem dW_783 : decode code 783 = .ok (.iconst 1, 1) := by decide +kernel
theorem dW_784 : decode code 784 = .ok (.iadd, 1) := by decide +kernel
theorem dW_785 : decode code 785 = .ok (.iaload, 1) := by decide +kernel
theorem dW_786 : decode code 786 = .ok (.aload_n 0, 1) := by decide +kernel
theorem dW_787 : decode code 787 = .ok (.iload_n 3, 1) := by decide +kernel
theorem dW_788 : decode code 788 = .ok (.iconst 2, 1) := by decide +kernel
theorem dW_789 : decode code 789 = .ok (.iadd, 1) := by decide +kernel
theorem dW_790 : decode code 790 = .ok (.iaload, 1) := by decide +kernel
theorem dW_791 : decode code 791 = .ok (.invokevirtual 101, 3) := by decide +kernel
theorem dW_794 : decode code 794 = .ok (.pop, 1) := by decide +kernel
theorem dW_795 : decode code 795 = .ok (.goto 454, 3) := by decide +kernel
theorem dW_798 : decode code 798 = .ok (.aload_n 1, 1) := by decide +kernel
theorem dW_799 : decode code 799 = .ok (.aload_n 0, 1) := by decide +kernel
theorem dW_800 : decode code 800 = .ok (.iload_n 3, 1) := by decide +kernel
theorem dW_801 : decode code 801 = .ok (.iconst 1, 1) := by decide +kernel
theorem dW_802 : decode code 802 = .ok (.iadd, 1) := by decide +kernel
theorem dW_803 : decode code 803 = .ok (.iaload, 1) := by decide +kernel
theorem dW_804 : decode code 804 = .ok (.invokevirtual 102, 3) := by decide +kernel
theorem dW_807 : decode code 807 = .ok (.pop, 1) := by decide +kernel
theorem dW_808 : decode code 808 = .ok (.aload_n 2, 1) := by decide +kernel
theorem dW_809 : decode code 809 = .ok (.aload_n 0, 1) := by decide +kernel
theorem dW_810 : decode code 810 = .ok (.iload_n 3, 1) := by decide +kernel
theorem dW_811 : decode code 811 = .ok (.iconst 1, 1) := by decide +kernel
theorem dW_812 : decode code 812 = .ok (.iadd, 1) := by decide +kernel
theorem dW_813 : decode code 813 = .ok (.iaload, 1) := by decide +kernel
theorem dW_814 : decode code 814 = .ok (.invokevirtual 105, 3) := by decide +kernel
theorem dW_817 : decode code 817 = .ok (.pop, 1) := by decide +kernel
theorem dW_818 : decode code 818 = .ok (.goto 431, 3) := by decide +kernel
theorem dW_821 : decode code 821 = .ok (.aload_n 1, 1) := by decide +kernel
theorem dW_822 : decode code 822 = .ok (.aload_n 0, 1) := by decide +kernel
theorem dW_823 : decode code 823 = .ok (.iload_n 3, 1) := by decide +kernel
theorem dW_824 : decode code 824 = .ok (.iconst 1, 1) := by decide +kernel
theorem dW_825 : decode code 825 = .ok (.iadd, 1) := by decide +kernel
theorem dW_826 : decode code 826 = .ok (.iaload, 1) := by decide +kernel
theorem dW_827 : decode code 827 = .ok (.invokevirtual 106, 3) := by decide +kernel
theorem dW_830 : decode code 830 = .ok (.pop, 1) := by decide +kernel
theorem dW_831 : decode code 831 = .ok (.aload_n 2, 1) := by decide +kernel
theorem dW_832 : decode code 832 = .ok (.aload_n 0, 1) := by decide +kernel
theorem dW_833 : decode code 833 = .ok (.iload_n 3, 1) := by decide +kernel
theorem dW_834 : decode code 834 = .ok (.iconst 1, 1) := by decide +kernel
theorem dW_835 : decode code 835 = .ok (.iadd, 1) := by decide +kernel
theorem dW_836 : decode code 836 = .ok (.iaload, 1) := by decide +kernel
theorem dW_837 : decode code 837 = .ok (.invokevirtual 109, 3) := by decide +kernel
theorem dW_840 : decode code 840 = .ok (.pop, 1) := by decide +kernel
theorem dW_841 : decode code 841 = .ok (.goto 408, 3) := by decide +kernel
theorem dW_844 : decode code 844 = .ok (.aload_n 1, 1) := by decide +kernel
theorem dW_845 : decode code 845 = .ok (.aload_n 0, 1) := by decide +kernel
theorem dW_846 : decode code 846 = .ok (.iload_n 3, 1) := by decide +kernel
theorem dW_847 : decode code 847 = .ok (.iconst 1, 1) := by decide +kernel
theorem dW_848 : decode code 848 = .ok (.iadd, 1) := by decide +kernel
theorem dW_849 : decode code 849 = .ok (.iaload, 1) := by decide +kernel
theorem dW_850 : decode code 850 = .ok (.invokevirtual 110, 3) := by decide +kernel
theorem dW_853 : decode code 853 = .ok (.pop, 1) := by decide +kernel
theorem dW_854 : decode code 854 = .ok (.aload_n 2, 1) := by decide +kernel
theorem dW_855 : decode code 855 = .ok (.aload_n 0, 1) := by decide +kernel
theorem dW_856 : decode code 856 = .ok (.iload_n 3, 1) := by decide +kernel
theorem dW_857 : decode code 857 = .ok (.iconst 1, 1) := by decide +kernel
theorem dW_858 : decode code 858 = .ok (.iadd, 1) := by decide +kernel
theorem dW_859 : decode code 859 = .ok (.iaload, 1) := by decide +kernel
theorem dW_860 : decode code 860 = .ok (.invokevirtual 113, 3) := by decide +kernel
theorem dW_863 : decode code 863 = .ok (.pop, 1) := by decide +kernel
theorem dW_864 : decode code 864 = .ok (.goto 385, 3) := by decide +kernel
theorem dW_867 : decode code 867 = .ok (.aload_n 1, 1) := by decide +kernel
theorem dW_868 : decode code 868 = .ok (.invokevirtual 114, 3) := by decide +kernel
theorem dW_871 : decode code 871 = .ok (.pop, 1) := by decide +kernel
theorem dW_872 : decode code 872 = .ok (.aload_n 2, 1) := by decide +kernel
theorem dW_873 : decode code 873 = .ok (.invokevirtual 117, 3) := by decide +kernel
theorem dW_876 : decode code 876 = .ok (.pop, 1) := by decide +kernel
theorem dW_877 : decode code 877 = .ok (.goto 372, 3) := by decide +kernel
theorem dW_880 : decode code 880 = .ok (.aload_n 1, 1) := by decide +kernel
theorem dW_881 : decode code 881 = .ok (.aload_n 0, 1) := by decide +kernel
theorem dW_882 : decode code 882 = .ok (.iload_n 3, 1) := by decide +kernel
theorem dW_883 : decode code 883 = .ok (.iconst 1, 1) := by decide +kernel
theorem dW_884 : decode code 884 = .ok (.iadd, 1) := by decide +kernel
theorem dW_885 : decode code 885 = .ok (.iaload, 1) := by decide +kernel
theorem dW_886 : decode code 886 = .ok (.aload_n 0, 1) := by decide +kernel
theorem dW_887 : decode code 887 = .ok (.iload_n 3, 1) := by decide +kernel
theorem dW_888 : decode code 888 = .ok (.iconst 2, 1) := by decide +kernel
theorem dW_889 : decode code 889 = .ok (.iadd, 1) := by decide +kernel
theorem dW_890 : decode code 890 = .ok (.iaload, 1) := by decide +kernel
theorem dW_891 : decode code 891 = .ok (.invokevirtual 118, 3) := by decide +kernel
theorem dW_894 : decode code 894 = .ok (.pop, 1) := by decide +kernel
theorem dW_895 : decode code 895 = .ok (.aload_n 2, 1) := by decide +kernel
theorem dW_896 : decode code 896 = .ok (.aload_n 0, 1) := by decide +kernel
theorem dW_897 : decode code 897 = .ok (.iload_n 3, 1) := by decide +kernel
theorem dW_898 : decode code 898 = .ok (.iconst 1, 1) := by decide +kernel
theorem dW_899 : decode code 899 = .ok (.iadd, 1) := by decide +kernel
theorem dW_900 : decode code 900 = .ok (.iaload, 1) := by decide +kernel
theorem dW_901 : decode code 901 = .ok (.aload_n 0, 1) := by decide +kernel
theorem dW_902 : decode code 902 = .ok (.iload_n 3, 1) := by decide +kernel
theorem dW_903 : decode code 903 = .ok (.iconst 2, 1) := by decide +kernel
theorem dW_904 : decode code 904 = .ok (.iadd, 1) := by decide +kernel
theorem dW_905 : decode code 905 = .ok (.iaload, 1) := by decide +kernel
theorem dW_906 : decode code 906 = .ok (.invokevirtual 121, 3) := by decide +kernel
theorem dW_909 : decode code 909 = .ok (.pop, 1) := by decide +kernel
theorem dW_910 : decode code 910 = .ok (.goto 339, 3) := by decide +kernel
theorem dW_913 : decode code 913 = .ok (.aload_n 1, 1) := by decide +kernel
theorem dW_914 : decode code 914 = .ok (.aload_n 0, 1) := by decide +kernel
theorem dW_915 : decode code 915 = .ok (.iload_n 3, 1) := by decide +kernel
theorem dW_916 : decode code 916 = .ok (.iconst 1, 1) := by decide +kernel
theorem dW_917 : decode code 917 = .ok (.iadd, 1) := by decide +kernel
theorem dW_918 : decode code 918 = .ok (.iaload, 1) := by decide +kernel
theorem dW_919 : decode code 919 = .ok (.aload_n 0, 1) := by decide +kernel
theorem dW_920 : decode code 920 = .ok (.iload_n 3, 1) := by decide +kernel
theorem dW_921 : decode code 921 = .ok (.iconst 2, 1) := by decide +kernel
theorem dW_922 : decode code 922 = .ok (.iadd, 1) := by decide +kernel
theorem dW_923 : decode code 923 = .ok (.iaload, 1) := by decide +kernel
theorem dW_924 : decode code 924 = .ok (.aload_n 0, 1) := by decide +kernel
theorem dW_925 : decode code 925 = .ok (.iload_n 3, 1) := by decide +kernel
theorem dW_926 : decode code 926 = .ok (.iconst 3, 1) := by decide +kernel
theorem dW_927 : decode code 927 = .ok (.iadd, 1) := by decide +kernel
theorem dW_928 : decode code 928 = .ok (.iaload, 1) := by decide +kernel
theorem dW_929 : decode code 929 = .ok (.aload_n 0, 1) := by decide +kernel
theorem dW_930 : decode code 930 = .ok (.iload_n 3, 1) := by decide +kernel
theorem dW_931 : decode code 931 = .ok (.iconst 4, 1) := by decide +kernel
theorem dW_932 : decode code 932 = .ok (.iadd, 1) := by decide +kernel
theorem dW_933 : decode code 933 = .ok (.iaload, 1) := by decide +kernel
theorem dW_934 : decode code 934 = .ok (.invokevirtual 122, 3) := by decide +kernel
theorem dW_937 : decode code 937 = .ok (.pop, 1) := by decide +kernel
theorem dW_938 : decode code 938 = .ok (.aload_n 2, 1) := by decide +kernel
theorem dW_939 : decode code 939 = .ok (.aload_n 0, 1) := by decide +kernel
theorem dW_940 : decode code 940 = .ok (.iload_n 3, 1) := by decide +kernel
theorem dW_941 : decode code 941 = .ok (.iconst 1, 1) := by decide +kernel
theorem dW_942 : decode code 942 = .ok (.iadd, 1) := by decide +kernel
theorem dW_943 : decode code 943 = .ok (.iaload, 1) := by decide +kernel
theorem dW_944 : decode code 944 = .ok (.aload_n 0, 1) := by decide +kernel
theorem dW_945 : decode code 945 = .ok (.iload_n 3, 1) := by decide +kernel
theorem dW_946 : decode code 946 = .ok (.iconst 2, 1) := by decide +kernel
theorem dW_947 : decode code 947 = .ok (.iadd, 1) := by decide +kernel
theorem dW_948 : decode code 948 = .ok (.iaload, 1) := by decide +kernel
theorem dW_949 : decode code 949 = .ok (.aload_n 0, 1) := by decide +kernel
theorem dW_950 : decode code 950 = .ok (.iload_n 3, 1) := by decide +kernel
theorem dW_951 : decode code 951 = .ok (.iconst 3, 1) := by decide +kernel
theorem dW_952 : decode code 952 = .ok (.iadd, 1) := by decide +kernel
theorem dW_953 : decode code 953 = .ok (.iaload, 1) := by decide +kernel
theorem dW_954 : decode code 954 = .ok (.aload_n 0, 1) := by decide +kernel
theorem dW_955 : decode code 955 = .ok (.iload_n 3, 1) := by decide +kernel
theorem dW_956 : decode code 956 = .ok (.iconst 4, 1) := by decide +kernel
theorem dW_957 : decode code 957 = .ok (.iadd, 1) := by decide +kernel
theorem dW_958 : decode code 958 = .ok (.iaload, 1) := by decide +kernel
theorem dW_959 : decode code 959 = .ok (.invokevirtual 125, 3) := by decide +kernel
theorem dW_962 : decode code 962 = .ok (.pop, 1) := by decide +kernel
theorem dW_963 : decode code 963 = .ok (.goto 286, 3) := by decide +kernel
theorem dW_966 : decode code 966 = .ok (.aload_n 1, 1) := by decide +kernel
theorem dW_967 : decode code 967 = .ok (.aload_n 0, 1) := by decide +kernel
theorem dW_968 : decode code 968 = .ok (.iload_n 3, 1) := by decide +kernel
theorem dW_969 : decode code 969 = .ok (.iconst 1, 1) := by decide +kernel
theorem dW_970 : decode code 970 = .ok (.iadd, 1) := by decide +kernel
theorem dW_971 : decode code 971 = .ok (.iaload, 1) := by decide +kernel
theorem dW_972 : decode code 972 = .ok (.invokevirtual 126, 3) := by decide +kernel
theorem dW_975 : decode code 975 = .ok (.pop, 1) := by decide +kernel
theorem dW_976 : decode code 976 = .ok (.aload_n 2, 1) := by decide +kernel
theorem dW_977 : decode code 977 = .ok (.aload_n 0, 1) := by decide +kernel
theorem dW_978 : decode code 978 = .ok (.iload_n 3, 1) := by decide +kernel
theorem dW_979 : decode code 979 = .ok (.iconst 1, 1) := by decide +kernel
theorem dW_980 : decode code 980 = .ok (.iadd, 1) := by decide +kernel
theorem dW_981 : decode code 981 = .ok (.iaload, 1) := by decide +kernel
theorem dW_982 : decode code 982 = .ok (.invokevirtual 129, 3) := by decide +kernel
theorem dW_985 : decode code 985 = .ok (.pop, 1) := by decide +kernel
theorem dW_986 : decode code 986 = .ok (.goto 263, 3) := by decide +kernel
theorem dW_989 : decode code 989 = .ok (.aload_n 1, 1) := by decide +kernel
theorem dW_990 : decode code 990 = .ok (.aload_n 0, 1) := by decide +kernel
theorem dW_991 : decode code 991 = .ok (.iload_n 3, 1) := by decide +kernel
theorem dW_992 : decode code 992 = .ok (.iconst 1, 1) := by decide +kernel
theorem dW_993 : decode code 993 = .ok (.iadd, 1) := by decide +kernel
theorem dW_994 : decode code 994 = .ok (.iaload, 1) := by decide +kernel
theorem dW_995 : decode code 995 = .ok (.aload_n 0, 1) := by decide +kernel
theorem dW_996 : decode code 996 = .ok (.iload_n 3, 1) := by decide +kernel
theorem dW_997 : decode code 997 = .ok (.iconst 2, 1) := by decide +kernel
theorem dW_998 : decode code 998 = .ok (.iadd, 1) := by decide +kernel
theorem dW_999 : decode code 999 = .ok (.iaload, 1) := by decide +kernel
theorem dW_1000 : decode code 1000 = .ok (.aload_n 0, 1) := by decide +kernel
theorem dW_1001 : decode code 1001 = .ok (.iload_n 3, 1) := by decide +kernel
theorem dW_1002 : decode code 1002 = .ok (.iconst 3, 1) := by decide +kernel
theorem dW_1003 : decode code 1003 = .ok (.iadd, 1) := by decide +kernel
theorem dW_1004 : decode code 1004 = .ok (.iaload, 1) := by decide +kernel
theorem dW_1005 : decode code 1005 = .ok (.aload_n 0, 1) := by decide +kernel
theorem dW_1006 : decode code 1006 = .ok (.iload_n 3, 1) := by decide +kernel
theorem dW_1007 : decode code 1007 = .ok (.iconst 4, 1) := by decide +kernel
theorem dW_1008 : decode code 1008 = .ok (.iadd, 1) := by decide +kernel
theorem dW_1009 : decode code 1009 = .ok (.iaload, 1) := by decide +kernel
theorem dW_1010 : decode code 1010 = .ok (.invokevirtual 130, 3) := by decide +kernel
theorem dW_1013 : decode code 1013 = .ok (.pop, 1) := by decide +kernel
theorem dW_1014 : decode code 1014 = .ok (.aload_n 2, 1) := by decide +kernel
theorem dW_1015 : decode code 1015 = .ok (.aload_n 0, 1) := by decide +kernel
theorem dW_1016 : decode code 1016 = .ok (.iload_n 3, 1) := by decide +kernel
theorem dW_1017 : decode code 1017 = .ok (.iconst 1, 1) := by decide +kernel
theorem dW_1018 : decode code 1018 = .ok (.iadd, 1) := by decide +kernel
theorem dW_1019 : decode code 1019 = .ok (.iaload, 1) := by decide +kernel
theorem dW_1020 : decode code 1020 = .ok (.aload_n 0, 1) := by decide +kernel
theorem dW_1021 : decode code 1021 = .ok (.iload_n 3, 1) := by decide +kernel
theorem dW_1022 : decode code 1022 = .ok (.iconst 2, 1) := by decide +kernel
theorem dW_1023 : decode code 1023 = .ok (.iadd, 1) := by decide +kernel
theorem dW_1024 : decode code 1024 = .ok (.iaload, 1) := by decide +kernel
theorem dW_1025 : decode code 1025 = .ok (.aload_n 0, 1) := by decide +kernel
theorem dW_1026 : decode code 1026 = .ok (.iload_n 3, 1) := by decide +kernel
theorem dW_1027 : decode code 1027 = .ok (.iconst 3, 1) := by decide +kernel
theorem dW_1028 : decode code 1028 = .ok (.iadd, 1) := by decide +kernel
theorem dW_1029 : decode code 1029 = .ok (.iaload, 1) := by decide +kernel
theorem dW_1030 : decode code 1030 = .ok (.aload_n 0, 1) := by decide +kernel
theorem dW_1031 : decode code 1031 = .ok (.iload_n 3, 1) := by decide +kernel
theorem dW_1032 : decode code 1032 = .ok (.iconst 4, 1) := by decide +kernel
theorem dW_1033 : decode code 1033 = .ok (.iadd, 1) := by decide +kernel
theorem dW_1034 : decode code 1034 = .ok (.iaload, 1) := by decide +kernel
theorem dW_1035 : decode code 1035 = .ok (.invokevirtual 133, 3) := by decide +kernel
theorem dW_1038 : decode code 1038 = .ok (.pop, 1) := by decide +kernel
theorem dW_1039 : decode code 1039 = .ok (.goto 210, 3) := by decide +kernel
theorem dW_1042 : decode code 1042 = .ok (.aload_n 1, 1) := by decide +kernel
theorem dW_1043 : decode code 1043 = .ok (.aload_n 0, 1) := by decide +kernel
theorem dW_1044 : decode code 1044 = .ok (.iload_n 3, 1) := by decide +kernel
theorem dW_1045 : decode code 1045 = .ok (.iconst 1, 1) := by decide +kernel
theorem dW_1046 : decode code 1046 = .ok (.iadd, 1) := by decide +kernel
theorem dW_1047 : decode code 1047 = .ok (.iaload, 1) := by decide +kernel
theorem dW_1048 : decode code 1048 = .ok (.aload_n 0, 1) := by decide +kernel
theorem dW_1049 : decode code 1049 = .ok (.iload_n 3, 1) := by decide +kernel
theorem dW_1050 : decode code 1050 = .ok (.iconst 2, 1) := by decide +kernel
theorem dW_1051 : decode code 1051 = .ok (.iadd, 1) := by decide +kernel
theorem dW_1052 : decode code 1052 = .ok (.iaload, 1) := by decide +kernel
theorem dW_1053 : decode code 1053 = .ok (.aload_n 0, 1) := by decide +kernel
theorem dW_1054 : decode code 1054 = .ok (.iload_n 3, 1) := by decide +kernel
theorem dW_1055 : decode code 1055 = .ok (.iconst 3, 1) := by decide +kernel
theorem dW_1056 : decode code 1056 = .ok (.iadd, 1) := by decide +kernel
theorem dW_1057 : decode code 1057 = .ok (.iaload, 1) := by decide +kernel
theorem dW_1058 : decode code 1058 = .ok (.ifCond .eq 7, 3) := by decide +kernel
theorem dW_1061 : decode code 1061 = .ok (.iconst 1, 1) := by decide +kernel
theorem dW_1062 : decode code 1062 = .ok (.goto 4, 3) := by decide +kernel
theorem dW_1065 : decode code 1065 = .ok (.iconst 0, 1) := by decide +kernel
theorem dW_1066 : decode code 1066 = .ok (.invokevirtual 134, 3) := by decide +kernel
theorem dW_1069 : decode code 1069 = .ok (.pop, 1) := by decide +kernel
theorem dW_1070 : decode code 1070 = .ok (.aload_n 2, 1) := by decide +kernel
theorem dW_1071 : decode code 1071 = .ok (.aload_n 0, 1) := by decide +kernel
theorem dW_1072 : decode code 1072 = .ok (.iload_n 3, 1) := by decide +kernel
theorem dW_1073 : decode code 1073 = .ok (.iconst 1, 1) := by decide +kernel
theorem dW_1074 : decode code 1074 = .ok (.iadd, 1) := by decide +kernel
theorem dW_1075 : decode code 1075 = .ok (.iaload, 1) := by decide +kernel
theorem dW_1076 : decode code 1076 = .ok (.aload_n 0, 1) := by decide +kernel
theorem dW_1077 : decode code 1077 = .ok (.iload_n 3, 1) := by decide +kernel
theorem dW_1078 : decode code 1078 = .ok (.iconst 2, 1) := by decide +kernel
theorem dW_1079 : decode code 1079 = .ok (.iadd, 1) := by decide +kernel
theorem dW_1080 : decode code 1080 = .ok (.iaload, 1) := by decide +kernel
theorem dW_1081 : decode code 1081 = .ok (.aload_n 0, 1) := by decide +kernel
theorem dW_1082 : decode code 1082 = .ok (.iload_n 3, 1) := by decide +kernel
theorem dW_1083 : decode code 1083 = .ok (.iconst 3, 1) := by decide +kernel
theorem dW_1084 : decode code 1084 = .ok (.iadd, 1) := by decide +kernel
theorem dW_1085 : decode code 1085 = .ok (.iaload, 1) := by decide +kernel
theorem dW_1086 : decode code 1086 = .ok (.ifCond .eq 7, 3) := by decide +kernel
theorem dW_1089 : decode code 1089 = .ok (.iconst 1, 1) := by decide +kernel
theorem dW_1090 : decode code 1090 = .ok (.goto 4, 3) := by decide +kernel
theorem dW_1093 : decode code 1093 = .ok (.iconst 0, 1) := by decide +kernel
theorem dW_1094 : decode code 1094 = .ok (.invokevirtual 138, 3) := by decide +kernel
theorem dW_1097 : decode code 1097 = .ok (.pop, 1) := by decide +kernel
theorem dW_1098 : decode code 1098 = .ok (.goto 151, 3) := by decide +kernel
theorem dW_1101 : decode code 1101 = .ok (.aload_n 1, 1) := by decide +kernel
theorem dW_1102 : decode code 1102 = .ok (.invokevirtual 139, 3) := by decide +kernel
theorem dW_1105 : decode code 1105 = .ok (.pop, 1) := by decide +kernel
theorem dW_1106 : decode code 1106 = .ok (.aload_n 2, 1) := by decide +kernel
theorem dW_1107 : decode code 1107 = .ok (.invokevirtual 142, 3) := by decide +kernel
theorem dW_1110 : decode code 1110 = .ok (.pop, 1) := by decide +kernel
theorem dW_1111 : decode code 1111 = .ok (.goto 138, 3) := by decide +kernel
theorem dW_1114 : decode code 1114 = .ok (.aload_n 1, 1) := by decide +kernel
theorem dW_1115 : decode code 1115 = .ok (.aload_n 0, 1) := by decide +kernel
theorem dW_1116 : decode code 1116 = .ok (.iload_n 3, 1) := by decide +kernel
theorem dW_1117 : decode code 1117 = .ok (.iconst 1, 1) := by decide +kernel
theorem dW_1118 : decode code 1118 = .ok (.iadd, 1) := by decide +kernel
theorem dW_1119 : decode code 1119 = .ok (.iaload, 1) := by decide +kernel
theorem dW_1120 : decode code 1120 = .ok (.aload_n 0, 1) := by decide +kernel
theorem dW_1121 : decode code 1121 = .ok (.iload_n 3, 1) := by decide +kernel
theorem dW_1122 : decode code 1122 = .ok (.iconst 2, 1) := by decide +kernel
theorem dW_1123 : decode code 1123 = .ok (.iadd, 1) := by decide +kernel
theorem dW_1124 : decode code 1124 = .ok (.iaload, 1) := by decide +kernel
theorem dW_1125 : decode code 1125 = .ok (.invokevirtual 143, 3) := by decide +kernel
theorem dW_1128 : decode code 1128 = .ok (.pop, 1) := by decide +kernel
theorem dW_1129 : decode code 1129 = .ok (.aload_n 2, 1) := by decide +kernel
theorem dW_1130 : decode code 1130 = .ok (.aload_n 0, 1) := by decide +kernel
theorem dW_1131 : decode code 1131 = .ok (.iload_n 3, 1) := by decide +kernel
theorem dW_1132 : decode code 1132 = .ok (.iconst 1, 1) := by decide +kernel
theorem dW_1133 : decode code 1133 = .ok (.iadd, 1) := by decide +kernel
theorem dW_1134 : decode code 1134 = .ok (.iaload, 1) := by decide +kernel
theorem dW_1135 : decode code 1135 = .ok (.aload_n 0, 1) := by decide +kernel
theorem dW_1136 : decode code 1136 = .ok (.iload_n 3, 1) := by decide +kernel
theorem dW_1137 : decode code 1137 = .ok (.iconst 2, 1) := by decide +kernel
theorem dW_1138 : decode code 1138 = .ok (.iadd, 1) := by decide +kernel
theorem dW_1139 : decode code 1139 = .ok (.iaload, 1) := by decide +kernel
theorem dW_1140 : decode code 1140 = .ok (.invokevirtual 146, 3) := by decide +kernel
theorem dW_1143 : decode code 1143 = .ok (.pop, 1) := by decide +kernel
theorem dW_1144 : decode code 1144 = .ok (.goto 105, 3) := by decide +kernel
theorem dW_1147 : decode code 1147 = .ok (.aload_n 1, 1) := by decide +kernel
theorem dW_1148 : decode code 1148 = .ok (.aload_n 0, 1) := by decide +kernel
theorem dW_1149 : decode code 1149 = .ok (.iload_n 3, 1) := by decide +kernel
theorem dW_1150 : decode code 1150 = .ok (.iconst 1, 1) := by decide +kernel
theorem dW_1151 : decode code 1151 = .ok (.iadd, 1) := by decide +kernel
theorem dW_1152 : decode code 1152 = .ok (.iaload, 1) := by decide +kernel
theorem dW_1153 : decode code 1153 = .ok (.aload_n 0, 1) := by decide +kernel
theorem dW_1154 : decode code 1154 = .ok (.iload_n 3, 1) := by decide +kernel
theorem dW_1155 : decode code 1155 = .ok (.iconst 2, 1) := by decide +kernel
theorem dW_1156 : decode code 1156 = .ok (.iadd, 1) := by decide +kernel
theorem dW_1157 : decode code 1157 = .ok (.iaload, 1) := by decide +kernel
theorem dW_1158 : decode code 1158 = .ok (.invokevirtual 147, 3) := by decide +kernel
theorem dW_1161 : decode code 1161 = .ok (.pop, 1) := by decide +kernel
theorem dW_1162 : decode code 1162 = .ok (.aload_n 2, 1) := by decide +kernel
theorem dW_1163 : decode code 1163 = .ok (.aload_n 0, 1) := by decide +kernel
theorem dW_1164 : decode code 1164 = .ok (.iload_n 3, 1) := by decide +kernel
theorem dW_1165 : decode code 1165 = .ok (.iconst 1, 1) := by decide +kernel
theorem dW_1166 : decode code 1166 = .ok (.iadd, 1) := by decide +kernel
theorem dW_1167 : decode code 1167 = .ok (.iaload, 1) := by decide +kernel
theorem dW_1168 : decode code 1168 = .ok (.aload_n 0, 1) := by decide +kernel
theorem dW_1169 : decode code 1169 = .ok (.iload_n 3, 1) := by decide +kernel
theorem dW_1170 : decode code 1170 = .ok (.iconst 2, 1) := by decide +kernel
theorem dW_1171 : decode code 1171 = .ok (.iadd, 1) := by decide +kernel
theorem dW_1172 : decode code 1172 = .ok (.iaload, 1) := by decide +kernel
theorem dW_1173 : decode code 1173 = .ok (.invokevirtual 150, 3) := by decide +kernel
theorem dW_1176 : decode code 1176 = .ok (.pop, 1) := by decide +kernel
theorem dW_1177 : decode code 1177 = .ok (.goto 72, 3) := by decide +kernel
theorem dW_1180 : decode code 1180 = .ok (.aload_n 1, 1) := by decide +kernel
theorem dW_1181 : decode code 1181 = .ok (.aload_n 0, 1) := by decide +kernel
theorem dW_1182 : decode code 1182 = .ok (.iload_n 3, 1) := by decide +kernel
theorem dW_1183 : decode code 1183 = .ok (.iconst 1, 1) := by decide +kernel
theorem dW_1184 : decode code 1184 = .ok (.iadd, 1) := by decide +kernel
theorem dW_1185 : decode code 1185 = .ok (.iaload, 1) := by decide +kernel
theorem dW_1186 : decode code 1186 = .ok (.invokevirtual 151, 3) := by decide +kernel
theorem dW_1189 : decode code 1189 = .ok (.pop, 1) := by decide +kernel
theorem dW_1190 : decode code 1190 = .ok (.aload_n 2, 1) := by decide +kernel
theorem dW_1191 : decode code 1191 = .ok (.aload_n 0, 1) := by decide +kernel
theorem dW_1192 : decode code 1192 = .ok (.iload_n 3, 1) := by decide +kernel
theorem dW_1193 : decode code 1193 = .ok (.iconst 1, 1) := by decide +kernel
theorem dW_1194 : decode code 1194 = .ok (.iadd, 1) := by decide +kernel
theorem dW_1195 : decode code 1195 = .ok (.iaload, 1) := by decide +kernel
theorem dW_1196 : decode code 1196 = .ok (.invokevirtual 154, 3) := by decide +kernel
theorem dW_1199 : decode code 1199 = .ok (.pop, 1) := by decide +kernel
theorem dW_1200 : decode code 1200 = .ok (.goto 49, 3) := by decide +kernel
theorem dW_1203 : decode code 1203 = .ok (.aload_n 1, 1) := by decide +kernel
theorem dW_1204 : decode code 1204 = .ok (.aload_n 0, 1) := by decide +kernel
theorem dW_1205 : decode code 1205 = .ok (.iload_n 3, 1) := by decide +kernel
theorem dW_1206 : decode code 1206 = .ok (.iconst 1, 1) := by decide +kernel
theorem dW_1207 : decode code 1207 = .ok (.iadd, 1) := by decide +kernel
theorem dW_1208 : decode code 1208 = .ok (.iaload, 1) := by decide +kernel
theorem dW_1209 : decode code 1209 = .ok (.invokevirtual 155, 3) := by decide +kernel
theorem dW_1212 : decode code 1212 = .ok (.pop, 1) := by decide +kernel
theorem dW_1213 : decode code 1213 = .ok (.aload_n 2, 1) := by decide +kernel
theorem dW_1214 : decode code 1214 = .ok (.aload_n 0, 1) := by decide +kernel
theorem dW_1215 : decode code 1215 = .ok (.iload_n 3, 1) := by decide +kernel
theorem dW_1216 : decode code 1216 = .ok (.iconst 1, 1) := by decide +kernel
theorem dW_1217 : decode code 1217 = .ok (.iadd, 1) := by decide +kernel
theorem dW_1218 : decode code 1218 = .ok (.iaload, 1) := by decide +kernel
theorem dW_1219 : decode code 1219 = .ok (.invokevirtual 158, 3) := by decide +kernel
theorem dW_1222 : decode code 1222 = .ok (.pop, 1) := by decide +kernel
theorem dW_1223 : decode code 1223 = .ok (.goto 26, 3) := by decide +kernel
theorem dW_1226 : decode code 1226 = .ok (.aload_n 1, 1) := by decide +kernel
theorem dW_1227 : decode code 1227 = .ok (.aload_n 0, 1) := by decide +kernel
theorem dW_1228 : decode code 1228 = .ok (.iload_n 3, 1) := by decide +kernel
theorem dW_1229 : decode code 1229 = .ok (.iconst 1, 1) := by decide +kernel
theorem dW_1230 : decode code 1230 = .ok (.iadd, 1) := by decide +kernel
theorem dW_1231 : decode code 1231 = .ok (.iaload, 1) := by decide +kernel
theorem dW_1232 : decode code 1232 = .ok (.invokevirtual 159, 3) := by decide +kernel
theorem dW_1235 : decode code 1235 = .ok (.pop, 1) := by decide +kernel
theorem dW_1236 : decode code 1236 = .ok (.aload_n 2, 1) := by decide +kernel
theorem dW_1237 : decode code 1237 = .ok (.aload_n 0, 1) := by decide +kernel
theorem dW_1238 : decode code 1238 = .ok (.iload_n 3, 1) := by decide +kernel
theorem dW_1239 : decode code 1239 = .ok (.iconst 1, 1) := by decide +kernel
theorem dW_1240 : decode code 1240 = .ok (.iadd, 1) := by decide +kernel
theorem dW_1241 : decode code 1241 = .ok (.iaload, 1) := by decide +kernel
theorem dW_1242 : decode code 1242 = .ok (.invokevirtual 162, 3) := by decide +kernel
theorem dW_1245 : decode code 1245 = .ok (.pop, 1) := by decide +kernel
theorem dW_1246 : decode code 1246 = .ok (.goto 3, 3) := by decide +kernel
theorem lw_ldx {p : Program} {l : Launch} {e : Env} {s : State} {m : MethodId} {below : List Frame} {meth : Method} {c : Code} {b sl : Nat} {xs : Nat → Int32} {D : va_G} {tys : List (ClassId × FieldType)} {Q : State → Prop} {N pc cells slots : Nat} {I : zI} {μ : xM} {ls : Array Slot} {H : Heap} {locs : List Loc} {i kv z : Int32} {kk : Int} {st : List Value} (hz : z = xs (i + kv).toNatClampNeg) (C : lCx p s m meth c b sl xs D tys) (hM : zMem zG0 D tys s.heap.size N 0 s I μ H locs) (hL : lv_has ls 4 (lLv s.heap.size b i)) (d0 : decode code pc = .ok (.aload_n 0, 1)) (d1 : decode code (pc + 1) = .ok (.iload_n 3, 1)) (d2 : decode code (pc + 2) = .ok (.iconst kk, 1)) (hkk : Int32.ofInt kk = kv) (d3 : decode code (pc + 3) = .ok (.iadd, 1)) (d4 : decode code (pc + 4) = .ok (.iaload, 1)) (h0 : 0 ≤ i.toInt) (h6 : i.toInt + 6 ≤ (sl : Int)) (hk0 : 0 ≤ kv.toInt) (hk5 : kv.toInt ≤ 5) (k : W p l e room_1 s m #[Value.ref b] below meth c H locs cells slots Q (F0 m (pc + 5) ls (.int z :: st))) : W p l e room_1 s m #[Value.ref b] below meth c H locs cells slots Q (F0 m pc ls st) := by
  obtain ⟨⟨hx, hb, -⟩, hX, hbl, hsl⟩ := C
  have ea : (i + kv).toInt = i.toInt + kv.toInt := by
    rw [Int32.toInt_add]
    exact an_bm (by omega) (by omega)
  refine lv_aload_n hx hb d0 rfl (lv_at hL 0 rfl) ?_
  refine lv_iload_n hx hb d1 rfl (lv_at hL 3 rfl) ?_
  refine lv_iconst hx hb d2 hkk ?_
  refine lv_iadd hx hb d3 ?_
  refine va_sld hx hb hX hbl (by omega) hM.2.2.1 (ix (n := sl) (by omega) (by omega)).1 d4 ?_
  rw [← hz]
  exact k
set_option maxRecDepth 10000 in
set_option maxHeartbeats 4000000 in
theorem lc_2 {p : Program} {l : Launch} {e : Env} {s : State} {m : MethodId} {below : List Frame} {meth : Method} {c : Code} {b sl : Nat} {xs : Nat → Int32} {D : va_G} {tys : List (ClassId × FieldType)} {Q : State → Prop} {N cells slots : Nat} {I : zI} {μ : xM} {ls : Array Slot} {H : Heap} {locs : List Loc} {i : Int32} (C : lCx p s m meth c b sl xs D tys) (h0 : 0 ≤ i.toInt) (h6 : i.toInt + 6 ≤ (sl : Int)) (hM : zMem zG0 D tys s.heap.size N 0 s I μ H locs) (hL : lv_has ls 4 (lLv s.heap.size b i)) (hB : lwB I) (hR : lwR μ) (hce : cells + 12 ≤ 600000) (hsl : slots + 792 ≤ 7302250) (kk : ∀ (N' : Nat) (I' : zI) (μ' : xM) (H' : Heap) (locs' : List Loc) (cells' slots' : Nat), lwB I' → lwR μ' → zMem zG0 D tys s.heap.size N' 0 s I' μ' H' locs' → cells' ≤ cells + 6 → slots' ≤ slots + 396 → W p l e room_1 s m #[Value.ref b] below meth c H' locs' cells' slots' Q (F0 m 1249 ls [])) : W p l e room_1 s m #[Value.ref b] below meth c H locs cells slots Q (F0 m 274 ls []) := by
  obtain ⟨hx, hb, -⟩ := id C.1
  refine lv_aload_n hx hb dW_274 rfl (lv_at hL 1 rfl) ?_
  refine lw_tab (us := []) (a := 0) C hM hL.1 hB dW_275 dW_278 zl_103 rfl wd_614 wd_615 wd_616 rfl (by decide) zh_103 (by decide +kernel) (by decide +kernel) (by decide) ⟨_, _, rfl, rfl, rfl⟩ rfl rfl (Or.inl rfl) (by omega) (by omega) (fun N1 I1 μ1 H1 locs1 ce1 sl1 hP1 hB1 hM1 hc1 hs1 => ?_)
  obtain ⟨r1, -, hE1⟩ := hP1
  rw [show zbd 103 = (0, 0) from rfl] at hc1 hs1
  replace hc1 : ce1 = cells + 0 := hc1
  replace hs1 : sl1 = slots + 0 := hs1
  refine lv_aload_n hx hb dW_279 rfl (lv_at hL 2 rfl) ?_
  refine lw_tab (us := []) (a := 75) C hM1 hL.1 hB1 dW_280 dW_283 zl_207 rfl wd_1505 wd_1506 wd_1507 rfl (by decide) zh_207 (by decide +kernel) (by decide +kernel) (by decide) ⟨_, _, rfl, rfl, rfl⟩ rfl rfl (Or.inl rfl) (by omega) (by omega) (fun N2 I2 μ2 H2 locs2 ce2 sl2 hP2 hB2 hM2 hc2 hs2 => ?_)
  obtain ⟨r2, -, hE2⟩ := hP2
  rw [show zbd 207 = (0, 0) from rfl] at hc2 hs2
  replace hc2 : ce2 = ce1 + 0 := hc2
  replace hs2 : sl2 = sl1 + 0 := hs2
  refine lv_goto hx hb dW_284 (tgt := 1249) (by decide) ?_
  exact kk N2 I2 μ2 H2 locs2 ce2 sl2 hB2 (lwR_read hE1 hE2 hR).2 hM2 (by omega) (by omega)
set_option maxRecDepth 10000 in
set_option maxHeartbeats 4000000 in
theorem lc_3 {p : Program} {l : Launch} {e : Env} {s : State} {m : MethodId} {below : List Frame} {meth : Method} {c : Code} {b sl : Nat} {xs : Nat → Int32} {D : va_G} {tys : List (ClassId × FieldType)} {Q : State → Prop} {N cells slots : Nat} {I : zI} {μ : xM} {ls : Array Slot} {H : Heap} {locs : List Loc} {i : Int32} (C : lCx p s m meth c b sl xs D tys) (h0 : 0 ≤ i.toInt) (h6 : i.toInt + 6 ≤ (sl : Int)) (hM : zMem zG0 D tys s.heap.size N 0 s I μ H locs) (hL : lv_has ls 4 (lLv s.heap.size b i)) (hB : lwB I) (hR : lwR μ) (hce : cells + 12 ≤ 600000) (hsl : slots + 792 ≤ 7302250) (kk : ∀ (N' : Nat) (I' : zI) (μ' : xM) (H' : Heap) (locs' : List Loc) (cells' slots' : Nat), lwB I' → lwR μ' → zMem zG0 D tys s.heap.size N' 0 s I' μ' H' locs' → cells' ≤ cells + 6 → slots' ≤ slots + 396 → W p l e room_1 s m #[Value.ref b] below meth c H' locs' cells' slots' Q (F0 m 1249 ls [])) : W p l e room_1 s m #[Value.ref b] below meth c H locs cells slots Q (F0 m 287 ls []) := by
  obtain ⟨hx, hb, -⟩ := id C.1
  refine lv_aload_n hx hb dW_287 rfl (lv_at hL 1 rfl) ?_
  refine lw_tab (us := []) (a := 0) C hM hL.1 hB dW_288 dW_291 zl_102 rfl wd_842 wd_843 wd_844 rfl (by decide) zh_102 (by decide +kernel) (by decide +kernel) (by decide) ⟨_, _, rfl, rfl, rfl⟩ rfl rfl (Or.inl rfl) (by omega) (by omega) (fun N1 I1 μ1 H1 locs1 ce1 sl1 hP1 hB1 hM1 hc1 hs1 => ?_)
  obtain ⟨r1, -, hE1⟩ := hP1
  rw [show zbd 102 = (0, 0) from rfl] at hc1 hs1
  replace hc1 : ce1 = cells + 0 := hc1
  replace hs1 : sl1 = slots + 0 := hs1
  refine lv_aload_n hx hb dW_292 rfl (lv_at hL 2 rfl) ?_
  refine lw_tab (us := []) (a := 75) C hM1 hL.1 hB1 dW_293 dW_296 zl_204 rfl wd_1617 wd_1618 wd_1619 rfl (by decide) zh_204 (by decide +kernel) (by decide +kernel) (by decide) ⟨_, _, rfl, rfl, rfl⟩ rfl rfl (Or.inl rfl) (by omega) (by omega) (fun N2 I2 μ2 H2 locs2 ce2 sl2 hP2 hB2 hM2 hc2 hs2 => ?_)
  obtain ⟨r2, -, hE2⟩ := hP2
  rw [show zbd 204 = (0, 0) from rfl] at hc2 hs2
  replace hc2 : ce2 = ce1 + 0 := hc2
  replace hs2 : sl2 = sl1 + 0 := hs2
  refine lv_goto hx hb dW_297 (tgt := 1249) (by decide) ?_
  exact kk N2 I2 μ2 H2 locs2 ce2 sl2 hB2 (lwR_2 xm_97 (by decide +kernel) xm_177 (by decide +kernel) hE1 hE2 hR) hM2 (by omega) (by omega)
set_option maxRecDepth 10000 in
set_option maxHeartbeats 4000000 in
theorem lc_4 {p : Program} {l : Launch} {e : Env} {s : State} {m : MethodId} {below : List Frame} {meth : Method} {c : Code} {b sl : Nat} {xs : Nat → Int32} {D : va_G} {tys : List (ClassId × FieldType)} {Q : State → Prop} {N cells slots : Nat} {I : zI} {μ : xM} {ls : Array Slot} {H : Heap} {locs : List Loc} {i : Int32} (C : lCx p s m meth c b sl xs D tys) (h0 : 0 ≤ i.toInt) (h6 : i.toInt + 6 ≤ (sl : Int)) (hM : zMem zG0 D tys s.heap.size N 0 s I μ H locs) (hL : lv_has ls 4 (lLv s.heap.size b i)) (hB : lwB I) (hR : lwR μ) (hce : cells + 12 ≤ 600000) (hsl : slots + 792 ≤ 7302250) (kk : ∀ (N' : Nat) (I' : zI) (μ' : xM) (H' : Heap) (locs' : List Loc) (cells' slots' : Nat), lwB I' → lwR μ' → zMem zG0 D tys s.heap.size N' 0 s I' μ' H' locs' → cells' ≤ cells + 6 → slots' ≤ slots + 396 → W p l e room_1 s m #[Value.ref b] below meth c H' locs' cells' slots' Q (F0 m 1249 ls [])) : W p l e room_1 s m #[Value.ref b] below meth c H locs cells slots Q (F0 m 300 ls []) := by
  obtain ⟨hx, hb, -⟩ := id C.1
  refine lv_aload_n hx hb dW_300 rfl (lv_at hL 1 rfl) ?_
  refine lw_ld (kv := 1) C hM hL dW_301 dW_302 dW_303 (by decide) dW_304 dW_305 h0 h6 (by decide) (by decide) (fun z301 => ?_)
  refine lw_ld (kv := 2) C hM hL dW_306 dW_307 dW_308 (by decide) dW_309 dW_310 h0 h6 (by decide) (by decide) (fun z306 => ?_)
  refine lw_ld (kv := 3) C hM hL dW_311 dW_312 dW_313 (by decide) dW_314 dW_315 h0 h6 (by decide) (by decide) (fun z311 => ?_)
  refine lw_tab (us := [z301, z306, z311]) (a := 0) C hM hL.1 hB dW_316 dW_319 zl_92 rfl wd_846 wd_847 wd_848 rfl (by decide) zh_92 (by decide +kernel) (by decide +kernel) (by decide) ⟨_, _, rfl, rfl, ⟨_, _, rfl, ⟨_, rfl, an_lo _, an_hi _⟩, ⟨_, _, rfl, ⟨_, rfl, an_lo _, an_hi _⟩, ⟨_, _, rfl, ⟨_, rfl, an_lo _, an_hi _⟩, rfl⟩⟩⟩⟩ rfl rfl (Or.inl rfl) (by omega) (by omega) (fun N1 I1 μ1 H1 locs1 ce1 sl1 hP1 hB1 hM1 hc1 hs1 => ?_)
  obtain ⟨r1, -, hE1⟩ := hP1
  rw [show zbd 92 = (0, 0) from rfl] at hc1 hs1
  replace hc1 : ce1 = cells + 0 := hc1
  replace hs1 : sl1 = slots + 0 := hs1
  refine lv_aload_n hx hb dW_320 rfl (lv_at hL 2 rfl) ?_
  refine lw_ld (kv := 1) C hM1 hL dW_321 dW_322 dW_323 (by decide) dW_324 dW_325 h0 h6 (by decide) (by decide) (fun z321 => ?_)
  refine lw_ld (kv := 2) C hM1 hL dW_326 dW_327 dW_328 (by decide) dW_329 dW_330 h0 h6 (by decide) (by decide) (fun z326 => ?_)
  refine lw_ld (kv := 3) C hM1 hL dW_331 dW_332 dW_333 (by decide) dW_334 dW_335 h0 h6 (by decide) (by decide) (fun z331 => ?_)
  refine lw_tab (us := [z321, z326, z331]) (a := 75) C hM1 hL.1 hB1 dW_336 dW_339 zl_154 rfl wd_1621 wd_1622 wd_1623 rfl (by decide) zh_154 (by decide +kernel) (by decide +kernel) (by decide) ⟨_, _, rfl, rfl, ⟨_, _, rfl, ⟨_, rfl, an_lo _, an_hi _⟩, ⟨_, _, rfl, ⟨_, rfl, an_lo _, an_hi _⟩, ⟨_, _, rfl, ⟨_, rfl, an_lo _, an_hi _⟩, rfl⟩⟩⟩⟩ rfl rfl (Or.inl rfl) (by omega) (by omega) (fun N2 I2 μ2 H2 locs2 ce2 sl2 hP2 hB2 hM2 hc2 hs2 => ?_)
  obtain ⟨r2, -, hE2⟩ := hP2
  rw [show zbd 154 = (0, 0) from rfl] at hc2 hs2
  replace hc2 : ce2 = ce1 + 0 := hc2
  replace hs2 : sl2 = sl1 + 0 := hs2
  refine lv_goto hx hb dW_340 (tgt := 1249) (by decide) ?_
  exact kk N2 I2 μ2 H2 locs2 ce2 sl2 hB2 (lwR_2 xm_87 (by decide +kernel) xm_147 (by decide +kernel) hE1 hE2 hR) hM2 (by omega) (by omega)
set_option maxRecDepth 10000 in
set_option maxHeartbeats 4000000 in
theorem lc_5 {p : Program} {l : Launch} {e : Env} {s : State} {m : MethodId} {below : List Frame} {meth : Method} {c : Code} {b sl : Nat} {xs : Nat → Int32} {D : va_G} {tys : List (ClassId × FieldType)} {Q : State → Prop} {N cells slots : Nat} {I : zI} {μ : xM} {ls : Array Slot} {H : Heap} {locs : List Loc} {i : Int32} (C : lCx p s m meth c b sl xs D tys) (h0 : 0 ≤ i.toInt) (h6 : i.toInt + 6 ≤ (sl : Int)) (hM : zMem zG0 D tys s.heap.size N 0 s I μ H locs) (hL : lv_has ls 4 (lLv s.heap.size b i)) (hB : lwB I) (hR : lwR μ) (hce : cells + 12 ≤ 600000) (hsl : slots + 792 ≤ 7302250) (kk : ∀ (N' : Nat) (I' : zI) (μ' : xM) (H' : Heap) (locs' : List Loc) (cells' slots' : Nat), lwB I' → lwR μ' → zMem zG0 D tys s.heap.size N' 0 s I' μ' H' locs' → cells' ≤ cells + 6 → slots' ≤ slots + 396 → W p l e room_1 s m #[Value.ref b] below meth c H' locs' cells' slots' Q (F0 m 1249 ls [])) : W p l e room_1 s m #[Value.ref b] below meth c H locs cells slots Q (F0 m 343 ls []) := by
  obtain ⟨hx, hb, -⟩ := id C.1
  refine lv_aload_n hx hb dW_343 rfl (lv_at hL 1 rfl) ?_
  refine lw_ld (kv := 1) C hM hL dW_344 dW_345 dW_346 (by decide) dW_347 dW_348 h0 h6 (by decide) (by decide) (fun z344 => ?_)
  refine lw_ld (kv := 2) C hM hL dW_349 dW_350 dW_351 (by decide) dW_352 dW_353 h0 h6 (by decide) (by decide) (fun z349 => ?_)
  refine lw_tab (us := [z344, z349]) (a := 0) C hM hL.1 hB dW_354 dW_357 zl_117 rfl wd_890 wd_891 wd_892 rfl (by decide) zh_117 (by decide +kernel) (by decide +kernel) (by decide) ⟨_, _, rfl, rfl, ⟨_, _, rfl, ⟨_, rfl, an_lo _, an_hi _⟩, ⟨_, _, rfl, ⟨_, rfl, an_lo _, an_hi _⟩, rfl⟩⟩⟩ rfl rfl (Or.inl rfl) (by omega) (by omega) (fun N1 I1 μ1 H1 locs1 ce1 sl1 hP1 hB1 hM1 hc1 hs1 => ?_)
  obtain ⟨r1, -, hE1⟩ := hP1
  rw [show zbd 117 = (0, 0) from rfl] at hc1 hs1
  replace hc1 : ce1 = cells + 0 := hc1
  replace hs1 : sl1 = slots + 0 := hs1
  refine lv_aload_n hx hb dW_358 rfl (lv_at hL 2 rfl) ?_
  refine lw_ld (kv := 1) C hM1 hL dW_359 dW_360 dW_361 (by decide) dW_362 dW_363 h0 h6 (by decide) (by decide) (fun z359 => ?_)
  refine lw_ld (kv := 2) C hM1 hL dW_364 dW_365 dW_366 (by decide) dW_367 dW_368 h0 h6 (by decide) (by decide) (fun z364 => ?_)
  refine lw_tab (us := [z359, z364]) (a := 75) C hM1 hL.1 hB1 dW_369 dW_372 zl_222 rfl wd_1674 wd_1675 wd_1676 rfl (by decide) zh_222 (by decide +kernel) (by decide +kernel) (by decide) ⟨_, _, rfl, rfl, ⟨_, _, rfl, ⟨_, rfl, an_lo _, an_hi _⟩, ⟨_, _, rfl, ⟨_, rfl, an_lo _, an_hi _⟩, rfl⟩⟩⟩ rfl rfl (Or.inl rfl) (by omega) (by omega) (fun N2 I2 μ2 H2 locs2 ce2 sl2 hP2 hB2 hM2 hc2 hs2 => ?_)
  obtain ⟨r2, -, hE2⟩ := hP2
  rw [show zbd 222 = (0, 0) from rfl] at hc2 hs2
  replace hc2 : ce2 = ce1 + 0 := hc2
  replace hs2 : sl2 = sl1 + 0 := hs2
  refine lv_goto hx hb dW_373 (tgt := 1249) (by decide) ?_
  exact kk N2 I2 μ2 H2 locs2 ce2 sl2 hB2 (lwR_2 xm_110 (by decide +kernel) xm_195 (by decide +kernel) hE1 hE2 hR) hM2 (by omega) (by omega)
set_option maxRecDepth 10000 in
set_option maxHeartbeats 4000000 in
theorem lc_6 {p : Program} {l : Launch} {e : Env} {s : State} {m : MethodId} {below : List Frame} {meth : Method} {c : Code} {b sl : Nat} {xs : Nat → Int32} {D : va_G} {tys : List (ClassId × FieldType)} {Q : State → Prop} {N cells slots : Nat} {I : zI} {μ : xM} {ls : Array Slot} {H : Heap} {locs : List Loc} {i : Int32} (C : lCx p s m meth c b sl xs D tys) (h0 : 0 ≤ i.toInt) (h6 : i.toInt + 6 ≤ (sl : Int)) (hM : zMem zG0 D tys s.heap.size N 0 s I μ H locs) (hL : lv_has ls 4 (lLv s.heap.size b i)) (hB : lwB I) (hR : lwR μ) (hce : cells + 12 ≤ 600000) (hsl : slots + 792 ≤ 7302250) (kk : ∀ (N' : Nat) (I' : zI) (μ' : xM) (H' : Heap) (locs' : List Loc) (cells' slots' : Nat), lwB I' → lwR μ' → zMem zG0 D tys s.heap.size N' 0 s I' μ' H' locs' → cells' ≤ cells + 6 → slots' ≤ slots + 396 → W p l e room_1 s m #[Value.ref b] below meth c H' locs' cells' slots' Q (F0 m 1249 ls [])) : W p l e room_1 s m #[Value.ref b] below meth c H locs cells slots Q (F0 m 376 ls []) := by
  obtain ⟨hx, hb, -⟩ := id C.1
  refine lv_aload_n hx hb dW_376 rfl (lv_at hL 1 rfl) ?_
  refine lw_ld (kv := 1) C hM hL dW_377 dW_378 dW_379 (by decide) dW_380 dW_381 h0 h6 (by decide) (by decide) (fun z377 => ?_)
  refine lw_ld (kv := 2) C hM hL dW_382 dW_383 dW_384 (by decide) dW_385 dW_386 h0 h6 (by decide) (by decide) (fun z382 => ?_)
  refine lw_tab (us := [z377, z382]) (a := 0) C hM hL.1 hB dW_387 dW_390 zl_118 rfl wd_910 wd_911 wd_912 rfl (by decide) zh_118 (by decide +kernel) (by decide +kernel) (by decide) ⟨_, _, rfl, rfl, ⟨_, _, rfl, ⟨_, rfl, an_lo _, an_hi _⟩, ⟨_, _, rfl, ⟨_, rfl, an_lo _, an_hi _⟩, rfl⟩⟩⟩ rfl rfl (Or.inl rfl) (by omega) (by omega) (fun N1 I1 μ1 H1 locs1 ce1 sl1 hP1 hB1 hM1 hc1 hs1 => ?_)
  obtain ⟨r1, -, hE1⟩ := hP1
  rw [show zbd 118 = (0, 0) from rfl] at hc1 hs1
  replace hc1 : ce1 = cells + 0 := hc1
  replace hs1 : sl1 = slots + 0 := hs1
  refine lv_aload_n hx hb dW_391 rfl (lv_at hL 2 rfl) ?_
  refine lw_ld (kv := 1) C hM1 hL dW_392 dW_393 dW_394 (by decide) dW_395 dW_396 h0 h6 (by decide) (by decide) (fun z392 => ?_)
  refine lw_ld (kv := 2) C hM1 hL dW_397 dW_398 dW_399 (by decide) dW_400 dW_401 h0 h6 (by decide) (by decide) (fun z397 => ?_)
  refine lw_tab (us := [z392, z397]) (a := 75) C hM1 hL.1 hB1 dW_402 dW_405 zl_224 rfl wd_1690 wd_1691 wd_1692 rfl (by decide) zh_224 (by decide +kernel) (by decide +kernel) (by decide) ⟨_, _, rfl, rfl, ⟨_, _, rfl, ⟨_, rfl, an_lo _, an_hi _⟩, ⟨_, _, rfl, ⟨_, rfl, an_lo _, an_hi _⟩, rfl⟩⟩⟩ rfl rfl (Or.inl rfl) (by omega) (by omega) (fun N2 I2 μ2 H2 locs2 ce2 sl2 hP2 hB2 hM2 hc2 hs2 => ?_)
  obtain ⟨r2, -, hE2⟩ := hP2
  rw [show zbd 224 = (0, 0) from rfl] at hc2 hs2
  replace hc2 : ce2 = ce1 + 0 := hc2
  replace hs2 : sl2 = sl1 + 0 := hs2
  refine lv_goto hx hb dW_406 (tgt := 1249) (by decide) ?_
  exact kk N2 I2 μ2 H2 locs2 ce2 sl2 hB2 (lwR_2 xm_111 (by decide +kernel) xm_197 (by decide +kernel) hE1 hE2 hR) hM2 (by omega) (by omega)
set_option maxRecDepth 10000 in
set_option maxHeartbeats 4000000 in
theorem lc_7 {p : Program} {l : Launch} {e : Env} {s : State} {m : MethodId} {below : List Frame} {meth : Method} {c : Code} {b sl : Nat} {xs : Nat → Int32} {D : va_G} {tys : List (ClassId × FieldType)} {Q : State → Prop} {N cells slots : Nat} {I : zI} {μ : xM} {ls : Array Slot} {H : Heap} {locs : List Loc} {i : Int32} (C : lCx p s m meth c b sl xs D tys) (h0 : 0 ≤ i.toInt) (h6 : i.toInt + 6 ≤ (sl : Int)) (hM : zMem zG0 D tys s.heap.size N 0 s I μ H locs) (hL : lv_has ls 4 (lLv s.heap.size b i)) (hB : lwB I) (hR : lwR μ) (hce : cells + 12 ≤ 600000) (hsl : slots + 792 ≤ 7302250) (kk : ∀ (N' : Nat) (I' : zI) (μ' : xM) (H' : Heap) (locs' : List Loc) (cells' slots' : Nat), lwB I' → lwR μ' → zMem zG0 D tys s.heap.size N' 0 s I' μ' H' locs' → cells' ≤ cells + 6 → slots' ≤ slots + 396 → W p l e room_1 s m #[Value.ref b] below meth c H' locs' cells' slots' Q (F0 m 1249 ls [])) : W p l e room_1 s m #[Value.ref b] below meth c H locs cells slots Q (F0 m 409 ls []) := by
  obtain ⟨hx, hb, -⟩ := id C.1
  refine lv_aload_n hx hb dW_409 rfl (lv_at hL 1 rfl) ?_
  refine lw_ld (kv := 1) C hM hL dW_410 dW_411 dW_412 (by decide) dW_413 dW_414 h0 h6 (by decide) (by decide) (fun z410 => ?_)
  refine lw_ld (kv := 2) C hM hL dW_415 dW_416 dW_417 (by decide) dW_418 dW_419 h0 h6 (by decide) (by decide) (fun z415 => ?_)
  refine lw_ld (kv := 3) C hM hL dW_420 dW_421 dW_422 (by decide) dW_423 dW_424 h0 h6 (by decide) (by decide) (fun z420 => ?_)
  refine lw_ld (kv := 4) C hM hL dW_425 dW_426 dW_427 (by decide) dW_428 dW_429 h0 h6 (by decide) (by decide) (fun z425 => ?_)
  refine lw_tab (us := [z410, z415, z420, z425]) (a := 0) C hM hL.1 hB dW_430 dW_433 zl_113 rfl wd_914 wd_915 wd_916 rfl (by decide) zh_113 (by decide +kernel) (by decide +kernel) (by decide) ⟨_, _, rfl, rfl, ⟨_, _, rfl, ⟨_, rfl, an_lo _, an_hi _⟩, ⟨_, _, rfl, ⟨_, rfl, an_lo _, an_hi _⟩, ⟨_, _, rfl, ⟨_, rfl, an_lo _, an_hi _⟩, ⟨_, _, rfl, ⟨_, rfl, an_lo _, an_hi _⟩, rfl⟩⟩⟩⟩⟩ rfl rfl (Or.inl rfl) (by omega) (by omega) (fun N1 I1 μ1 H1 locs1 ce1 sl1 hP1 hB1 hM1 hc1 hs1 => ?_)
  obtain ⟨r1, -, hE1⟩ := hP1
  rw [show zbd 113 = (0, 0) from rfl] at hc1 hs1
  replace hc1 : ce1 = cells + 0 := hc1
  replace hs1 : sl1 = slots + 0 := hs1
  refine lv_aload_n hx hb dW_434 rfl (lv_at hL 2 rfl) ?_
  refine lw_ld (kv := 1) C hM1 hL dW_435 dW_436 dW_437 (by decide) dW_438 dW_439 h0 h6 (by decide) (by decide) (fun z435 => ?_)
  refine lw_ld (kv := 2) C hM1 hL dW_440 dW_441 dW_442 (by decide) dW_443 dW_444 h0 h6 (by decide) (by decide) (fun z440 => ?_)
  refine lw_ld (kv := 3) C hM1 hL dW_445 dW_446 dW_447 (by decide) dW_448 dW_449 h0 h6 (by decide) (by decide) (fun z445 => ?_)
  refine lw_ld (kv := 4) C hM1 hL dW_450 dW_451 dW_452 (by decide) dW_453 dW_454 h0 h6 (by decide) (by decide) (fun z450 => ?_)
  refine lw_tab (us := [z435, z440, z445, z450]) (a := 75) C hM1 hL.1 hB1 dW_455 dW_458 zl_216 rfl wd_1694 wd_1695 wd_1696 rfl (by decide) zh_216 (by decide +kernel) (by decide +kernel) (by decide) ⟨_, _, rfl, rfl, ⟨_, _, rfl, ⟨_, rfl, an_lo _, an_hi _⟩, ⟨_, _, rfl, ⟨_, rfl, an_lo _, an_hi _⟩, ⟨_, _, rfl, ⟨_, rfl, an_lo _, an_hi _⟩, ⟨_, _, rfl, ⟨_, rfl, an_lo _, an_hi _⟩, rfl⟩⟩⟩⟩⟩ rfl rfl (Or.inl rfl) (by omega) (by omega) (fun N2 I2 μ2 H2 locs2 ce2 sl2 hP2 hB2 hM2 hc2 hs2 => ?_)
  obtain ⟨r2, -, hE2⟩ := hP2
  rw [show zbd 216 = (0, 0) from rfl] at hc2 hs2
  replace hc2 : ce2 = ce1 + 0 := hc2
  replace hs2 : sl2 = sl1 + 0 := hs2
  refine lv_goto hx hb dW_459 (tgt := 1249) (by decide) ?_
  exact kk N2 I2 μ2 H2 locs2 ce2 sl2 hB2 (lwR_2 xm_106 (by decide +kernel) xm_189 (by decide +kernel) hE1 hE2 hR) hM2 (by omega) (by omega)
set_option maxRecDepth 10000 in
set_option maxHeartbeats 4000000 in
theorem lc_8 {p : Program} {l : Launch} {e : Env} {s : State} {m : MethodId} {below : List Frame} {meth : Method} {c : Code} {b sl : Nat} {xs : Nat → Int32} {D : va_G} {tys : List (ClassId × FieldType)} {Q : State → Prop} {N cells slots : Nat} {I : zI} {μ : xM} {ls : Array Slot} {H : Heap} {locs : List Loc} {i : Int32} (C : lCx p s m meth c b sl xs D tys) (h0 : 0 ≤ i.toInt) (h6 : i.toInt + 6 ≤ (sl : Int)) (hM : zMem zG0 D tys s.heap.size N 0 s I μ H locs) (hL : lv_has ls 4 (lLv s.heap.size b i)) (hB : lwB I) (hR : lwR μ) (hce : cells + 12 ≤ 600000) (hsl : slots + 792 ≤ 7302250) (kk : ∀ (N' : Nat) (I' : zI) (μ' : xM) (H' : Heap) (locs' : List Loc) (cells' slots' : Nat), lwB I' → lwR μ' → zMem zG0 D tys s.heap.size N' 0 s I' μ' H' locs' → cells' ≤ cells + 6 → slots' ≤ slots + 396 → W p l e room_1 s m #[Value.ref b] below meth c H' locs' cells' slots' Q (F0 m 1249 ls [])) : W p l e room_1 s m #[Value.ref b] below meth c H locs cells slots Q (F0 m 462 ls []) := by
  obtain ⟨hx, hb, -⟩ := id C.1
  obtain ⟨z1, hz1⟩ : ∃ z, z = xs (i + 1).toNatClampNeg := ⟨_, rfl⟩
  obtain ⟨z2, hz2⟩ : ∃ z, z = xs (i + 2).toNatClampNeg := ⟨_, rfl⟩
  obtain ⟨z3, hz3⟩ : ∃ z, z = xs (i + 3).toNatClampNeg := ⟨_, rfl⟩
  obtain ⟨z4, hz4⟩ : ∃ z, z = xs (i + 4).toNatClampNeg := ⟨_, rfl⟩
  refine lv_aload_n hx hb dW_462 rfl (lv_at hL 1 rfl) ?_
  refine lw_ldx (kv := 1) hz1 C hM hL dW_463 dW_464 dW_465 (by decide) dW_466 dW_467 h0 h6 (by decide) (by decide) ?_
  refine lw_tab (us := [z1]) (a := 0) C hM hL.1 hB dW_468 dW_471 zl_105 rfl wd_927 wd_928 wd_929 rfl (by decide) zh_105 (by decide +kernel) (by decide +kernel) (by decide) ⟨_, _, rfl, rfl, ⟨_, _, rfl, ⟨_, rfl, an_lo _, an_hi _⟩, rfl⟩⟩ rfl rfl (Or.inr rfl) (by omega) (by omega) (fun N1 I1 μ1 H1 locs1 ce1 sl1 hP1 hB1 hM1 hc1 hs1 => ?_)
  obtain ⟨r1, -, hE1⟩ := hP1
  rw [show zbd 105 = (6, 396) from rfl] at hc1 hs1
  replace hc1 : ce1 = cells + 6 := hc1
  replace hs1 : sl1 = slots + 396 := hs1
  refine lv_aload_n hx hb dW_472 rfl (lv_at hL 2 rfl) ?_
  refine lw_ldx (kv := 1) hz1 C hM1 hL dW_473 dW_474 dW_475 (by decide) dW_476 dW_477 h0 h6 (by decide) (by decide) ?_
  refine lw_tab (us := [z1]) (a := 75) C hM1 hL.1 hB1 dW_478 dW_481 zl_211 rfl wd_1707 wd_1708 wd_1709 rfl (by decide) zh_211 (by decide +kernel) (by decide +kernel) (by decide) ⟨_, _, rfl, rfl, ⟨_, _, rfl, ⟨_, rfl, an_lo _, an_hi _⟩, rfl⟩⟩ rfl rfl (Or.inl rfl) (by omega) (by omega) (fun N2 I2 μ2 H2 locs2 ce2 sl2 hP2 hB2 hM2 hc2 hs2 => ?_)
  obtain ⟨r2, -, hE2⟩ := hP2
  rw [show zbd 211 = (0, 0) from rfl] at hc2 hs2
  replace hc2 : ce2 = ce1 + 0 := hc2
  replace hs2 : sl2 = sl1 + 0 := hs2
  refine lv_goto hx hb dW_482 (tgt := 1249) (by decide) ?_
  exact kk N2 I2 μ2 H2 locs2 ce2 sl2 hB2 (lwR_set hE1 hE2 hR).2 hM2 (by omega) (by omega)
set_option maxRecDepth 10000 in
set_option maxHeartbeats 4000000 in
theorem lc_9 {p : Program} {l : Launch} {e : Env} {s : State} {m : MethodId} {below : List Frame} {meth : Method} {c : Code} {b sl : Nat} {xs : Nat → Int32} {D : va_G} {tys : List (ClassId × FieldType)} {Q : State → Prop} {N cells slots : Nat} {I : zI} {μ : xM} {ls : Array Slot} {H : Heap} {locs : List Loc} {i : Int32} (C : lCx p s m meth c b sl xs D tys) (h0 : 0 ≤ i.toInt) (h6 : i.toInt + 6 ≤ (sl : Int)) (hM : zMem zG0 D tys s.heap.size N 0 s I μ H locs) (hL : lv_has ls 4 (lLv s.heap.size b i)) (hB : lwB I) (hR : lwR μ) (hce : cells + 12 ≤ 600000) (hsl : slots + 792 ≤ 7302250) (kk : ∀ (N' : Nat) (I' : zI) (μ' : xM) (H' : Heap) (locs' : List Loc) (cells' slots' : Nat), lwB I' → lwR μ' → zMem zG0 D tys s.heap.size N' 0 s I' μ' H' locs' → cells' ≤ cells + 6 → slots' ≤ slots + 396 → W p l e room_1 s m #[Value.ref b] below meth c H' locs' cells' slots' Q (F0 m 1249 ls [])) : W p l e room_1 s m #[Value.ref b] below meth c H locs cells slots Q (F0 m 485 ls []) := by
  obtain ⟨hx, hb, -⟩ := id C.1
  obtain ⟨z1, hz1⟩ : ∃ z, z = xs (i + 1).toNatClampNeg := ⟨_, rfl⟩
  obtain ⟨z2, hz2⟩ : ∃ z, z = xs (i + 2).toNatClampNeg := ⟨_, rfl⟩
  obtain ⟨z3, hz3⟩ : ∃ z, z = xs (i + 3).toNatClampNeg := ⟨_, rfl⟩
  obtain ⟨z4, hz4⟩ : ∃ z, z = xs (i + 4).toNatClampNeg := ⟨_, rfl⟩
  refine lv_aload_n hx hb dW_485 rfl (lv_at hL 1 rfl) ?_
  refine lw_ldx (kv := 1) hz1 C hM hL dW_486 dW_487 dW_488 (by decide) dW_489 dW_490 h0 h6 (by decide) (by decide) ?_
  refine lw_tab (us := [z1]) (a := 0) C hM hL.1 hB dW_491 dW_494 zl_82 rfl wd_981 wd_982 wd_983 rfl (by decide) zh_82 (by decide +kernel) (by decide +kernel) (by decide) ⟨_, _, rfl, rfl, ⟨_, _, rfl, ⟨_, rfl, an_lo _, an_hi _⟩, rfl⟩⟩ rfl rfl (Or.inr rfl) (by omega) (by omega) (fun N1 I1 μ1 H1 locs1 ce1 sl1 hP1 hB1 hM1 hc1 hs1 => ?_)
  obtain ⟨r1, -, hE1⟩ := hP1
  rw [show zbd 82 = (6, 396) from rfl] at hc1 hs1
  replace hc1 : ce1 = cells + 6 := hc1
  replace hs1 : sl1 = slots + 396 := hs1
  refine lv_aload_n hx hb dW_495 rfl (lv_at hL 2 rfl) ?_
  refine lw_ldx (kv := 1) hz1 C hM1 hL dW_496 dW_497 dW_498 (by decide) dW_499 dW_500 h0 h6 (by decide) (by decide) ?_
  refine lw_tab (us := [z1]) (a := 75) C hM1 hL.1 hB1 dW_501 dW_504 zl_134 rfl wd_1731 wd_1732 wd_1733 rfl (by decide) zh_134 (by decide +kernel) (by decide +kernel) (by decide) ⟨_, _, rfl, rfl, ⟨_, _, rfl, ⟨_, rfl, an_lo _, an_hi _⟩, rfl⟩⟩ rfl rfl (Or.inl rfl) (by omega) (by omega) (fun N2 I2 μ2 H2 locs2 ce2 sl2 hP2 hB2 hM2 hc2 hs2 => ?_)
  obtain ⟨r2, -, hE2⟩ := hP2
  rw [show zbd 134 = (0, 0) from rfl] at hc2 hs2
  replace hc2 : ce2 = ce1 + 0 := hc2
  replace hs2 : sl2 = sl1 + 0 := hs2
  refine lv_goto hx hb dW_505 (tgt := 1249) (by decide) ?_
  exact kk N2 I2 μ2 H2 locs2 ce2 sl2 hB2 (lwR_clear hE1 hE2 hR).2 hM2 (by omega) (by omega)
set_option maxRecDepth 10000 in
set_option maxHeartbeats 4000000 in
theorem lc_11 {p : Program} {l : Launch} {e : Env} {s : State} {m : MethodId} {below : List Frame} {meth : Method} {c : Code} {b sl : Nat} {xs : Nat → Int32} {D : va_G} {tys : List (ClassId × FieldType)} {Q : State → Prop} {N cells slots : Nat} {I : zI} {μ : xM} {ls : Array Slot} {H : Heap} {locs : List Loc} {i : Int32} (C : lCx p s m meth c b sl xs D tys) (h0 : 0 ≤ i.toInt) (h6 : i.toInt + 6 ≤ (sl : Int)) (hM : zMem zG0 D tys s.heap.size N 0 s I μ H locs) (hL : lv_has ls 4 (lLv s.heap.size b i)) (hB : lwB I) (hR : lwR μ) (hce : cells + 12 ≤ 600000) (hsl : slots + 792 ≤ 7302250) (kk : ∀ (N' : Nat) (I' : zI) (μ' : xM) (H' : Heap) (locs' : List Loc) (cells' slots' : Nat), lwB I' → lwR μ' → zMem zG0 D tys s.heap.size N' 0 s I' μ' H' locs' → cells' ≤ cells + 6 → slots' ≤ slots + 396 → W p l e room_1 s m #[Value.ref b] below meth c H' locs' cells' slots' Q (F0 m 1249 ls [])) : W p l e room_1 s m #[Value.ref b] below meth c H locs cells slots Q (F0 m 551 ls []) := by
  obtain ⟨hx, hb, -⟩ := id C.1
  obtain ⟨z1, hz1⟩ : ∃ z, z = xs (i + 1).toNatClampNeg := ⟨_, rfl⟩
  obtain ⟨z2, hz2⟩ : ∃ z, z = xs (i + 2).toNatClampNeg := ⟨_, rfl⟩
  obtain ⟨z3, hz3⟩ : ∃ z, z = xs (i + 3).toNatClampNeg := ⟨_, rfl⟩
  obtain ⟨z4, hz4⟩ : ∃ z, z = xs (i + 4).toNatClampNeg := ⟨_, rfl⟩
  refine lv_aload_n hx hb dW_551 rfl (lv_at hL 1 rfl) ?_
  refine lw_ldx (kv := 1) hz1 C hM hL dW_552 dW_553 dW_554 (by decide) dW_555 dW_556 h0 h6 (by decide) (by decide) ?_
  refine lw_ldx (kv := 2) hz2 C hM hL dW_557 dW_558 dW_559 (by decide) dW_560 dW_561 h0 h6 (by decide) (by decide) ?_
  refine lw_ldx (kv := 3) hz3 C hM hL dW_562 dW_563 dW_564 (by decide) dW_565 dW_566 h0 h6 (by decide) (by decide) ?_
  refine lw_tab (us := [z1, z2, z3]) (a := 0) C hM hL.1 hB dW_567 dW_570 zl_89 rfl wd_997 wd_998 wd_999 rfl (by decide) zh_89 (by decide +kernel) (by decide +kernel) (by decide) ⟨_, _, rfl, rfl, ⟨_, _, rfl, ⟨_, rfl, an_lo _, an_hi _⟩, ⟨_, _, rfl, ⟨_, rfl, an_lo _, an_hi _⟩, ⟨_, _, rfl, ⟨_, rfl, an_lo _, an_hi _⟩, rfl⟩⟩⟩⟩ rfl rfl (Or.inr rfl) (by omega) (by omega) (fun N1 I1 μ1 H1 locs1 ce1 sl1 hP1 hB1 hM1 hc1 hs1 => ?_)
  obtain ⟨r1, -, hE1⟩ := hP1
  rw [show zbd 89 = (6, 396) from rfl] at hc1 hs1
  replace hc1 : ce1 = cells + 6 := hc1
  replace hs1 : sl1 = slots + 396 := hs1
  refine lv_aload_n hx hb dW_571 rfl (lv_at hL 2 rfl) ?_
  refine lw_ldx (kv := 1) hz1 C hM1 hL dW_572 dW_573 dW_574 (by decide) dW_575 dW_576 h0 h6 (by decide) (by decide) ?_
  refine lw_ldx (kv := 2) hz2 C hM1 hL dW_577 dW_578 dW_579 (by decide) dW_580 dW_581 h0 h6 (by decide) (by decide) ?_
  refine lw_ldx (kv := 3) hz3 C hM1 hL dW_582 dW_583 dW_584 (by decide) dW_585 dW_586 h0 h6 (by decide) (by decide) ?_
  refine lw_tab (us := [z1, z2, z3]) (a := 75) C hM1 hL.1 hB1 dW_587 dW_590 zl_147 rfl wd_1743 wd_1744 wd_1745 rfl (by decide) zh_147 (by decide +kernel) (by decide +kernel) (by decide) ⟨_, _, rfl, rfl, ⟨_, _, rfl, ⟨_, rfl, an_lo _, an_hi _⟩, ⟨_, _, rfl, ⟨_, rfl, an_lo _, an_hi _⟩, ⟨_, _, rfl, ⟨_, rfl, an_lo _, an_hi _⟩, rfl⟩⟩⟩⟩ rfl rfl (Or.inl rfl) (by omega) (by omega) (fun N2 I2 μ2 H2 locs2 ce2 sl2 hP2 hB2 hM2 hc2 hs2 => ?_)
  obtain ⟨r2, -, hE2⟩ := hP2
  rw [show zbd 147 = (0, 0) from rfl] at hc2 hs2
  replace hc2 : ce2 = ce1 + 0 := hc2
  replace hs2 : sl2 = sl1 + 0 := hs2
  refine lv_goto hx hb dW_591 (tgt := 1249) (by decide) ?_
  exact kk N2 I2 μ2 H2 locs2 ce2 sl2 hB2 (lwR_giveBack hE1 hE2 hR).2 hM2 (by omega) (by omega)
set_option maxRecDepth 10000 in
set_option maxHeartbeats 4000000 in
theorem lc_12 {p : Program} {l : Launch} {e : Env} {s : State} {m : MethodId} {below : List Frame} {meth : Method} {c : Code} {b sl : Nat} {xs : Nat → Int32} {D : va_G} {tys : List (ClassId × FieldType)} {Q : State → Prop} {N cells slots : Nat} {I : zI} {μ : xM} {ls : Array Slot} {H : Heap} {locs : List Loc} {i : Int32} (C : lCx p s m meth c b sl xs D tys) (h0 : 0 ≤ i.toInt) (h6 : i.toInt + 6 ≤ (sl : Int)) (hM : zMem zG0 D tys s.heap.size N 0 s I μ H locs) (hL : lv_has ls 4 (lLv s.heap.size b i)) (hB : lwB I) (hR : lwR μ) (hce : cells + 12 ≤ 600000) (hsl : slots + 792 ≤ 7302250) (kk : ∀ (N' : Nat) (I' : zI) (μ' : xM) (H' : Heap) (locs' : List Loc) (cells' slots' : Nat), lwB I' → lwR μ' → zMem zG0 D tys s.heap.size N' 0 s I' μ' H' locs' → cells' ≤ cells + 6 → slots' ≤ slots + 396 → W p l e room_1 s m #[Value.ref b] below meth c H' locs' cells' slots' Q (F0 m 1249 ls [])) : W p l e room_1 s m #[Value.ref b] below meth c H locs cells slots Q (F0 m 594 ls []) := by
  obtain ⟨hx, hb, -⟩ := id C.1
  obtain ⟨z1, hz1⟩ : ∃ z, z = xs (i + 1).toNatClampNeg := ⟨_, rfl⟩
  obtain ⟨z2, hz2⟩ : ∃ z, z = xs (i + 2).toNatClampNeg := ⟨_, rfl⟩
  obtain ⟨z3, hz3⟩ : ∃ z, z = xs (i + 3).toNatClampNeg := ⟨_, rfl⟩
  obtain ⟨z4, hz4⟩ : ∃ z, z = xs (i + 4).toNatClampNeg := ⟨_, rfl⟩
  refine lv_aload_n hx hb dW_594 rfl (lv_at hL 1 rfl) ?_
  refine lw_ldx (kv := 1) hz1 C hM hL dW_595 dW_596 dW_597 (by decide) dW_598 dW_599 h0 h6 (by decide) (by decide) ?_
  refine lw_tab (us := [z1]) (a := 0) C hM hL.1 hB dW_600 dW_603 zl_85 rfl wd_1001 wd_1002 wd_1003 rfl (by decide) zh_85 (by decide +kernel) (by decide +kernel) (by decide) ⟨_, _, rfl, rfl, ⟨_, _, rfl, ⟨_, rfl, an_lo _, an_hi _⟩, rfl⟩⟩ rfl rfl (Or.inr rfl) (by omega) (by omega) (fun N1 I1 μ1 H1 locs1 ce1 sl1 hP1 hB1 hM1 hc1 hs1 => ?_)
  obtain ⟨r1, -, hE1⟩ := hP1
  rw [show zbd 85 = (6, 396) from rfl] at hc1 hs1
  replace hc1 : ce1 = cells + 6 := hc1
  replace hs1 : sl1 = slots + 396 := hs1
  refine lv_aload_n hx hb dW_604 rfl (lv_at hL 2 rfl) ?_
  refine lw_ldx (kv := 1) hz1 C hM1 hL dW_605 dW_606 dW_607 (by decide) dW_608 dW_609 h0 h6 (by decide) (by decide) ?_
  refine lw_tab (us := [z1]) (a := 75) C hM1 hL.1 hB1 dW_610 dW_613 zl_139 rfl wd_1747 wd_1748 wd_1749 rfl (by decide) zh_139 (by decide +kernel) (by decide +kernel) (by decide) ⟨_, _, rfl, rfl, ⟨_, _, rfl, ⟨_, rfl, an_lo _, an_hi _⟩, rfl⟩⟩ rfl rfl (Or.inl rfl) (by omega) (by omega) (fun N2 I2 μ2 H2 locs2 ce2 sl2 hP2 hB2 hM2 hc2 hs2 => ?_)
  obtain ⟨r2, -, hE2⟩ := hP2
  rw [show zbd 139 = (0, 0) from rfl] at hc2 hs2
  replace hc2 : ce2 = ce1 + 0 := hc2
  replace hs2 : sl2 = sl1 + 0 := hs2
  refine lv_goto hx hb dW_614 (tgt := 1249) (by decide) ?_
  exact kk N2 I2 μ2 H2 locs2 ce2 sl2 hB2 (lwR_days hE1 hE2 hR).2 hM2 (by omega) (by omega)
set_option maxRecDepth 10000 in
set_option maxHeartbeats 4000000 in
theorem lc_13 {p : Program} {l : Launch} {e : Env} {s : State} {m : MethodId} {below : List Frame} {meth : Method} {c : Code} {b sl : Nat} {xs : Nat → Int32} {D : va_G} {tys : List (ClassId × FieldType)} {Q : State → Prop} {N cells slots : Nat} {I : zI} {μ : xM} {ls : Array Slot} {H : Heap} {locs : List Loc} {i : Int32} (C : lCx p s m meth c b sl xs D tys) (h0 : 0 ≤ i.toInt) (h6 : i.toInt + 6 ≤ (sl : Int)) (hM : zMem zG0 D tys s.heap.size N 0 s I μ H locs) (hL : lv_has ls 4 (lLv s.heap.size b i)) (hB : lwB I) (hR : lwR μ) (hce : cells + 12 ≤ 600000) (hsl : slots + 792 ≤ 7302250) (kk : ∀ (N' : Nat) (I' : zI) (μ' : xM) (H' : Heap) (locs' : List Loc) (cells' slots' : Nat), lwB I' → lwR μ' → zMem zG0 D tys s.heap.size N' 0 s I' μ' H' locs' → cells' ≤ cells + 6 → slots' ≤ slots + 396 → W p l e room_1 s m #[Value.ref b] below meth c H' locs' cells' slots' Q (F0 m 1249 ls [])) : W p l e room_1 s m #[Value.ref b] below meth c H locs cells slots Q (F0 m 617 ls []) := by
  obtain ⟨hx, hb, -⟩ := id C.1
  refine lv_aload_n hx hb dW_617 rfl (lv_at hL 1 rfl) ?_
  refine lw_tab (us := []) (a := 0) C hM hL.1 hB dW_618 dW_621 zl_116 rfl wd_1043 wd_1044 wd_1045 rfl (by decide) zh_116 (by decide +kernel) (by decide +kernel) (by decide) ⟨_, _, rfl, rfl, rfl⟩ rfl rfl (Or.inl rfl) (by omega) (by omega) (fun N1 I1 μ1 H1 locs1 ce1 sl1 hP1 hB1 hM1 hc1 hs1 => ?_)
  obtain ⟨r1, -, hE1⟩ := hP1
  rw [show zbd 116 = (0, 0) from rfl] at hc1 hs1
  replace hc1 : ce1 = cells + 0 := hc1
  replace hs1 : sl1 = slots + 0 := hs1
  refine lv_aload_n hx hb dW_622 rfl (lv_at hL 2 rfl) ?_
  refine lw_tab (us := []) (a := 75) C hM1 hL.1 hB1 dW_623 dW_626 zl_221 rfl wd_1782 wd_1783 wd_1784 rfl (by decide) zh_221 (by decide +kernel) (by decide +kernel) (by decide) ⟨_, _, rfl, rfl, rfl⟩ rfl rfl (Or.inl rfl) (by omega) (by omega) (fun N2 I2 μ2 H2 locs2 ce2 sl2 hP2 hB2 hM2 hc2 hs2 => ?_)
  obtain ⟨r2, -, hE2⟩ := hP2
  rw [show zbd 221 = (0, 0) from rfl] at hc2 hs2
  replace hc2 : ce2 = ce1 + 0 := hc2
  replace hs2 : sl2 = sl1 + 0 := hs2
  refine lv_goto hx hb dW_627 (tgt := 1249) (by decide) ?_
  exact kk N2 I2 μ2 H2 locs2 ce2 sl2 hB2 (lwR_undo hE1 hE2 hR).2 hM2 (by omega) (by omega)
set_option maxRecDepth 10000 in
set_option maxHeartbeats 4000000 in
theorem lc_14 {p : Program} {l : Launch} {e : Env} {s : State} {m : MethodId} {below : List Frame} {meth : Method} {c : Code} {b sl : Nat} {xs : Nat → Int32} {D : va_G} {tys : List (ClassId × FieldType)} {Q : State → Prop} {N cells slots : Nat} {I : zI} {μ : xM} {ls : Array Slot} {H : Heap} {locs : List Loc} {i : Int32} (C : lCx p s m meth c b sl xs D tys) (h0 : 0 ≤ i.toInt) (h6 : i.toInt + 6 ≤ (sl : Int)) (hM : zMem zG0 D tys s.heap.size N 0 s I μ H locs) (hL : lv_has ls 4 (lLv s.heap.size b i)) (hB : lwB I) (hR : lwR μ) (hce : cells + 12 ≤ 600000) (hsl : slots + 792 ≤ 7302250) (kk : ∀ (N' : Nat) (I' : zI) (μ' : xM) (H' : Heap) (locs' : List Loc) (cells' slots' : Nat), lwB I' → lwR μ' → zMem zG0 D tys s.heap.size N' 0 s I' μ' H' locs' → cells' ≤ cells + 6 → slots' ≤ slots + 396 → W p l e room_1 s m #[Value.ref b] below meth c H' locs' cells' slots' Q (F0 m 1249 ls [])) : W p l e room_1 s m #[Value.ref b] below meth c H locs cells slots Q (F0 m 630 ls []) := by
  obtain ⟨hx, hb, -⟩ := id C.1
  refine lv_aload_n hx hb dW_630 rfl (lv_at hL 1 rfl) ?_
  refine lw_ld (kv := 1) C hM hL dW_631 dW_632 dW_633 (by decide) dW_634 dW_635 h0 h6 (by decide) (by decide) (fun z631 => ?_)
  refine lw_ld (kv := 2) C hM hL dW_636 dW_637 dW_638 (by decide) dW_639 dW_640 h0 h6 (by decide) (by decide) (fun z636 => ?_)
  refine lw_tab (us := [z631, z636]) (a := 0) C hM hL.1 hB dW_641 dW_644 zl_88 rfl wd_1051 wd_1052 wd_1053 rfl (by decide) zh_88 (by decide +kernel) (by decide +kernel) (by decide) ⟨_, _, rfl, rfl, ⟨_, _, rfl, ⟨_, rfl, an_lo _, an_hi _⟩, ⟨_, _, rfl, ⟨_, rfl, an_lo _, an_hi _⟩, rfl⟩⟩⟩ rfl rfl (Or.inl rfl) (by omega) (by omega) (fun N1 I1 μ1 H1 locs1 ce1 sl1 hP1 hB1 hM1 hc1 hs1 => ?_)
  obtain ⟨r1, -, hE1⟩ := hP1
  rw [show zbd 88 = (0, 0) from rfl] at hc1 hs1
  replace hc1 : ce1 = cells + 0 := hc1
  replace hs1 : sl1 = slots + 0 := hs1
  refine lv_aload_n hx hb dW_645 rfl (lv_at hL 2 rfl) ?_
  refine lw_ld (kv := 1) C hM1 hL dW_646 dW_647 dW_648 (by decide) dW_649 dW_650 h0 h6 (by decide) (by decide) (fun z646 => ?_)
  refine lw_ld (kv := 2) C hM1 hL dW_651 dW_652 dW_653 (by decide) dW_654 dW_655 h0 h6 (by decide) (by decide) (fun z651 => ?_)
  refine lw_tab (us := [z646, z651]) (a := 75) C hM1 hL.1 hB1 dW_656 dW_659 zl_146 rfl wd_1786 wd_1787 wd_1788 rfl (by decide) zh_146 (by decide +kernel) (by decide +kernel) (by decide) ⟨_, _, rfl, rfl, ⟨_, _, rfl, ⟨_, rfl, an_lo _, an_hi _⟩, ⟨_, _, rfl, ⟨_, rfl, an_lo _, an_hi _⟩, rfl⟩⟩⟩ rfl rfl (Or.inl rfl) (by omega) (by omega) (fun N2 I2 μ2 H2 locs2 ce2 sl2 hP2 hB2 hM2 hc2 hs2 => ?_)
  obtain ⟨r2, -, hE2⟩ := hP2
  rw [show zbd 146 = (0, 0) from rfl] at hc2 hs2
  replace hc2 : ce2 = ce1 + 0 := hc2
  replace hs2 : sl2 = sl1 + 0 := hs2
  refine lv_goto hx hb dW_660 (tgt := 1249) (by decide) ?_
  exact kk N2 I2 μ2 H2 locs2 ce2 sl2 hB2 (lwR_2 xm_83 (by decide +kernel) xm_139 (by decide +kernel) hE1 hE2 hR) hM2 (by omega) (by omega)
set_option maxRecDepth 10000 in
set_option maxHeartbeats 4000000 in
theorem lc_15 {p : Program} {l : Launch} {e : Env} {s : State} {m : MethodId} {below : List Frame} {meth : Method} {c : Code} {b sl : Nat} {xs : Nat → Int32} {D : va_G} {tys : List (ClassId × FieldType)} {Q : State → Prop} {N cells slots : Nat} {I : zI} {μ : xM} {ls : Array Slot} {H : Heap} {locs : List Loc} {i : Int32} (C : lCx p s m meth c b sl xs D tys) (h0 : 0 ≤ i.toInt) (h6 : i.toInt + 6 ≤ (sl : Int)) (hM : zMem zG0 D tys s.heap.size N 0 s I μ H locs) (hL : lv_has ls 4 (lLv s.heap.size b i)) (hB : lwB I) (hR : lwR μ) (hce : cells + 12 ≤ 600000) (hsl : slots + 792 ≤ 7302250) (kk : ∀ (N' : Nat) (I' : zI) (μ' : xM) (H' : Heap) (locs' : List Loc) (cells' slots' : Nat), lwB I' → lwR μ' → zMem zG0 D tys s.heap.size N' 0 s I' μ' H' locs' → cells' ≤ cells + 6 → slots' ≤ slots + 396 → W p l e room_1 s m #[Value.ref b] below meth c H' locs' cells' slots' Q (F0 m 1249 ls [])) : W p l e room_1 s m #[Value.ref b] below meth c H locs cells slots Q (F0 m 663 ls []) := by
  obtain ⟨hx, hb, -⟩ := id C.1
  refine lv_aload_n hx hb dW_663 rfl (lv_at hL 1 rfl) ?_
  refine lw_ld (kv := 1) C hM hL dW_664 dW_665 dW_666 (by decide) dW_667 dW_668 h0 h6 (by decide) (by decide) (fun z664 => ?_)
  refine lw_tab (us := [z664]) (a := 0) C hM hL.1 hB dW_669 dW_672 zl_80 rfl wd_1056 wd_1057 wd_1058 rfl (by decide) zh_80 (by decide +kernel) (by decide +kernel) (by decide) ⟨_, _, rfl, rfl, ⟨_, _, rfl, ⟨_, rfl, an_lo _, an_hi _⟩, rfl⟩⟩ rfl rfl (Or.inl rfl) (by omega) (by omega) (fun N1 I1 μ1 H1 locs1 ce1 sl1 hP1 hB1 hM1 hc1 hs1 => ?_)
  obtain ⟨r1, -, hE1⟩ := hP1
  rw [show zbd 80 = (0, 0) from rfl] at hc1 hs1
  replace hc1 : ce1 = cells + 0 := hc1
  replace hs1 : sl1 = slots + 0 := hs1
  refine lv_aload_n hx hb dW_673 rfl (lv_at hL 2 rfl) ?_
  refine lw_ld (kv := 1) C hM1 hL dW_674 dW_675 dW_676 (by decide) dW_677 dW_678 h0 h6 (by decide) (by decide) (fun z674 => ?_)
  refine lw_tab (us := [z674]) (a := 75) C hM1 hL.1 hB1 dW_679 dW_682 zl_129 rfl wd_1790 wd_1791 wd_1792 rfl (by decide) zh_129 (by decide +kernel) (by decide +kernel) (by decide) ⟨_, _, rfl, rfl, ⟨_, _, rfl, ⟨_, rfl, an_lo _, an_hi _⟩, rfl⟩⟩ rfl rfl (Or.inl rfl) (by omega) (by omega) (fun N2 I2 μ2 H2 locs2 ce2 sl2 hP2 hB2 hM2 hc2 hs2 => ?_)
  obtain ⟨r2, -, hE2⟩ := hP2
  rw [show zbd 129 = (0, 0) from rfl] at hc2 hs2
  replace hc2 : ce2 = ce1 + 0 := hc2
  replace hs2 : sl2 = sl1 + 0 := hs2
  refine lv_goto hx hb dW_683 (tgt := 1249) (by decide) ?_
  exact kk N2 I2 μ2 H2 locs2 ce2 sl2 hB2 (lwR_2 xm_75 (by decide +kernel) xm_122 (by decide +kernel) hE1 hE2 hR) hM2 (by omega) (by omega)
set_option maxRecDepth 10000 in
set_option maxHeartbeats 4000000 in
theorem lc_16 {p : Program} {l : Launch} {e : Env} {s : State} {m : MethodId} {below : List Frame} {meth : Method} {c : Code} {b sl : Nat} {xs : Nat → Int32} {D : va_G} {tys : List (ClassId × FieldType)} {Q : State → Prop} {N cells slots : Nat} {I : zI} {μ : xM} {ls : Array Slot} {H : Heap} {locs : List Loc} {i : Int32} (C : lCx p s m meth c b sl xs D tys) (h0 : 0 ≤ i.toInt) (h6 : i.toInt + 6 ≤ (sl : Int)) (hM : zMem zG0 D tys s.heap.size N 0 s I μ H locs) (hL : lv_has ls 4 (lLv s.heap.size b i)) (hB : lwB I) (hR : lwR μ) (hce : cells + 12 ≤ 600000) (hsl : slots + 792 ≤ 7302250) (kk : ∀ (N' : Nat) (I' : zI) (μ' : xM) (H' : Heap) (locs' : List Loc) (cells' slots' : Nat), lwB I' → lwR μ' → zMem zG0 D tys s.heap.size N' 0 s I' μ' H' locs' → cells' ≤ cells + 6 → slots' ≤ slots + 396 → W p l e room_1 s m #[Value.ref b] below meth c H' locs' cells' slots' Q (F0 m 1249 ls [])) : W p l e room_1 s m #[Value.ref b] below meth c H locs cells slots Q (F0 m 686 ls []) := by
  obtain ⟨hx, hb, -⟩ := id C.1
  refine lv_aload_n hx hb dW_686 rfl (lv_at hL 1 rfl) ?_
  refine lw_ld (kv := 1) C hM hL dW_687 dW_688 dW_689 (by decide) dW_690 dW_691 h0 h6 (by decide) (by decide) (fun z687 => ?_)
  refine lw_ld (kv := 2) C hM hL dW_692 dW_693 dW_694 (by decide) dW_695 dW_696 h0 h6 (by decide) (by decide) (fun z692 => ?_)
  refine lw_tab (us := [z687, z692]) (a := 0) C hM hL.1 hB dW_697 dW_700 zl_121 rfl wd_1078 wd_1079 wd_1080 rfl (by decide) zh_121 (by decide +kernel) (by decide +kernel) (by decide) ⟨_, _, rfl, rfl, ⟨_, _, rfl, ⟨_, rfl, an_lo _, an_hi _⟩, ⟨_, _, rfl, ⟨_, rfl, an_lo _, an_hi _⟩, rfl⟩⟩⟩ rfl rfl (Or.inl rfl) (by omega) (by omega) (fun N1 I1 μ1 H1 locs1 ce1 sl1 hP1 hB1 hM1 hc1 hs1 => ?_)
  obtain ⟨r1, -, hE1⟩ := hP1
  rw [show zbd 121 = (0, 0) from rfl] at hc1 hs1
  replace hc1 : ce1 = cells + 0 := hc1
  replace hs1 : sl1 = slots + 0 := hs1
  refine lv_aload_n hx hb dW_701 rfl (lv_at hL 2 rfl) ?_
  refine lw_ld (kv := 1) C hM1 hL dW_702 dW_703 dW_704 (by decide) dW_705 dW_706 h0 h6 (by decide) (by decide) (fun z702 => ?_)
  refine lw_ld (kv := 2) C hM1 hL dW_707 dW_708 dW_709 (by decide) dW_710 dW_711 h0 h6 (by decide) (by decide) (fun z707 => ?_)
  refine lw_tab (us := [z702, z707]) (a := 75) C hM1 hL.1 hB1 dW_712 dW_715 zl_230 rfl wd_1810 wd_1811 wd_1812 rfl (by decide) zh_230 (by decide +kernel) (by decide +kernel) (by decide) ⟨_, _, rfl, rfl, ⟨_, _, rfl, ⟨_, rfl, an_lo _, an_hi _⟩, ⟨_, _, rfl, ⟨_, rfl, an_lo _, an_hi _⟩, rfl⟩⟩⟩ rfl rfl (Or.inl rfl) (by omega) (by omega) (fun N2 I2 μ2 H2 locs2 ce2 sl2 hP2 hB2 hM2 hc2 hs2 => ?_)
  obtain ⟨r2, -, hE2⟩ := hP2
  rw [show zbd 230 = (0, 0) from rfl] at hc2 hs2
  replace hc2 : ce2 = ce1 + 0 := hc2
  replace hs2 : sl2 = sl1 + 0 := hs2
  refine lv_goto hx hb dW_716 (tgt := 1249) (by decide) ?_
  exact kk N2 I2 μ2 H2 locs2 ce2 sl2 hB2 (lwR_2 xm_114 (by decide +kernel) xm_203 (by decide +kernel) hE1 hE2 hR) hM2 (by omega) (by omega)
set_option maxRecDepth 10000 in
set_option maxHeartbeats 4000000 in
theorem lc_17 {p : Program} {l : Launch} {e : Env} {s : State} {m : MethodId} {below : List Frame} {meth : Method} {c : Code} {b sl : Nat} {xs : Nat → Int32} {D : va_G} {tys : List (ClassId × FieldType)} {Q : State → Prop} {N cells slots : Nat} {I : zI} {μ : xM} {ls : Array Slot} {H : Heap} {locs : List Loc} {i : Int32} (C : lCx p s m meth c b sl xs D tys) (h0 : 0 ≤ i.toInt) (h6 : i.toInt + 6 ≤ (sl : Int)) (hM : zMem zG0 D tys s.heap.size N 0 s I μ H locs) (hL : lv_has ls 4 (lLv s.heap.size b i)) (hB : lwB I) (hR : lwR μ) (hce : cells + 12 ≤ 600000) (hsl : slots + 792 ≤ 7302250) (kk : ∀ (N' : Nat) (I' : zI) (μ' : xM) (H' : Heap) (locs' : List Loc) (cells' slots' : Nat), lwB I' → lwR μ' → zMem zG0 D tys s.heap.size N' 0 s I' μ' H' locs' → cells' ≤ cells + 6 → slots' ≤ slots + 396 → W p l e room_1 s m #[Value.ref b] below meth c H' locs' cells' slots' Q (F0 m 1249 ls [])) : W p l e room_1 s m #[Value.ref b] below meth c H locs cells slots Q (F0 m 719 ls []) := by
  obtain ⟨hx, hb, -⟩ := id C.1
  refine lv_aload_n hx hb dW_719 rfl (lv_at hL 1 rfl) ?_
  refine lw_ld (kv := 1) C hM hL dW_720 dW_721 dW_722 (by decide) dW_723 dW_724 h0 h6 (by decide) (by decide) (fun z720 => ?_)
  refine lw_tab (us := [z720]) (a := 0) C hM hL.1 hB dW_725 dW_728 zl_101 rfl wd_1083 wd_1084 wd_1085 rfl (by decide) zh_101 (by decide +kernel) (by decide +kernel) (by decide) ⟨_, _, rfl, rfl, ⟨_, _, rfl, ⟨_, rfl, an_lo _, an_hi _⟩, rfl⟩⟩ rfl rfl (Or.inl rfl) (by omega) (by omega) (fun N1 I1 μ1 H1 locs1 ce1 sl1 hP1 hB1 hM1 hc1 hs1 => ?_)
  obtain ⟨r1, -, hE1⟩ := hP1
  rw [show zbd 101 = (0, 0) from rfl] at hc1 hs1
  replace hc1 : ce1 = cells + 0 := hc1
  replace hs1 : sl1 = slots + 0 := hs1
  refine lv_aload_n hx hb dW_729 rfl (lv_at hL 2 rfl) ?_
  refine lw_ld (kv := 1) C hM1 hL dW_730 dW_731 dW_732 (by decide) dW_733 dW_734 h0 h6 (by decide) (by decide) (fun z730 => ?_)
  refine lw_tab (us := [z730]) (a := 75) C hM1 hL.1 hB1 dW_735 dW_738 zl_203 rfl wd_1814 wd_1815 wd_1816 rfl (by decide) zh_203 (by decide +kernel) (by decide +kernel) (by decide) ⟨_, _, rfl, rfl, ⟨_, _, rfl, ⟨_, rfl, an_lo _, an_hi _⟩, rfl⟩⟩ rfl rfl (Or.inl rfl) (by omega) (by omega) (fun N2 I2 μ2 H2 locs2 ce2 sl2 hP2 hB2 hM2 hc2 hs2 => ?_)
  obtain ⟨r2, -, hE2⟩ := hP2
  rw [show zbd 203 = (0, 0) from rfl] at hc2 hs2
  replace hc2 : ce2 = ce1 + 0 := hc2
  replace hs2 : sl2 = sl1 + 0 := hs2
  refine lv_goto hx hb dW_739 (tgt := 1249) (by decide) ?_
  exact kk N2 I2 μ2 H2 locs2 ce2 sl2 hB2 (lwR_2 xm_96 (by decide +kernel) xm_176 (by decide +kernel) hE1 hE2 hR) hM2 (by omega) (by omega)
set_option maxRecDepth 10000 in
set_option maxHeartbeats 4000000 in
theorem lc_18 {p : Program} {l : Launch} {e : Env} {s : State} {m : MethodId} {below : List Frame} {meth : Method} {c : Code} {b sl : Nat} {xs : Nat → Int32} {D : va_G} {tys : List (ClassId × FieldType)} {Q : State → Prop} {N cells slots : Nat} {I : zI} {μ : xM} {ls : Array Slot} {H : Heap} {locs : List Loc} {i : Int32} (C : lCx p s m meth c b sl xs D tys) (h0 : 0 ≤ i.toInt) (h6 : i.toInt + 6 ≤ (sl : Int)) (hM : zMem zG0 D tys s.heap.size N 0 s I μ H locs) (hL : lv_has ls 4 (lLv s.heap.size b i)) (hB : lwB I) (hR : lwR μ) (hce : cells + 12 ≤ 600000) (hsl : slots + 792 ≤ 7302250) (kk : ∀ (N' : Nat) (I' : zI) (μ' : xM) (H' : Heap) (locs' : List Loc) (cells' slots' : Nat), lwB I' → lwR μ' → zMem zG0 D tys s.heap.size N' 0 s I' μ' H' locs' → cells' ≤ cells + 6 → slots' ≤ slots + 396 → W p l e room_1 s m #[Value.ref b] below meth c H' locs' cells' slots' Q (F0 m 1249 ls [])) : W p l e room_1 s m #[Value.ref b] below meth c H locs cells slots Q (F0 m 742 ls []) := by
  obtain ⟨hx, hb, -⟩ := id C.1
  refine lv_aload_n hx hb dW_742 rfl (lv_at hL 1 rfl) ?_
  refine lw_ld (kv := 1) C hM hL dW_743 dW_744 dW_745 (by decide) dW_746 dW_747 h0 h6 (by decide) (by decide) (fun z743 => ?_)
  refine lw_tab (us := [z743]) (a := 0) C hM hL.1 hB dW_748 dW_751 zl_115 rfl wd_1091 wd_1092 wd_1093 rfl (by decide) zh_115 (by decide +kernel) (by decide +kernel) (by decide) ⟨_, _, rfl, rfl, ⟨_, _, rfl, ⟨_, rfl, an_lo _, an_hi _⟩, rfl⟩⟩ rfl rfl (Or.inl rfl) (by omega) (by omega) (fun N1 I1 μ1 H1 locs1 ce1 sl1 hP1 hB1 hM1 hc1 hs1 => ?_)
  obtain ⟨r1, -, hE1⟩ := hP1
  rw [show zbd 115 = (0, 0) from rfl] at hc1 hs1
  replace hc1 : ce1 = cells + 0 := hc1
  replace hs1 : sl1 = slots + 0 := hs1
  refine lv_aload_n hx hb dW_752 rfl (lv_at hL 2 rfl) ?_
  refine lw_ld (kv := 1) C hM1 hL dW_753 dW_754 dW_755 (by decide) dW_756 dW_757 h0 h6 (by decide) (by decide) (fun z753 => ?_)
  refine lw_tab (us := [z753]) (a := 75) C hM1 hL.1 hB1 dW_758 dW_761 zl_220 rfl wd_1818 wd_1819 wd_1820 rfl (by decide) zh_220 (by decide +kernel) (by decide +kernel) (by decide) ⟨_, _, rfl, rfl, ⟨_, _, rfl, ⟨_, rfl, an_lo _, an_hi _⟩, rfl⟩⟩ rfl rfl (Or.inl rfl) (by omega) (by omega) (fun N2 I2 μ2 H2 locs2 ce2 sl2 hP2 hB2 hM2 hc2 hs2 => ?_)
  obtain ⟨r2, -, hE2⟩ := hP2
  rw [show zbd 220 = (0, 0) from rfl] at hc2 hs2
  replace hc2 : ce2 = ce1 + 0 := hc2
  replace hs2 : sl2 = sl1 + 0 := hs2
  refine lv_goto hx hb dW_762 (tgt := 1249) (by decide) ?_
  exact kk N2 I2 μ2 H2 locs2 ce2 sl2 hB2 (lwR_2 xm_108 (by decide +kernel) xm_193 (by decide +kernel) hE1 hE2 hR) hM2 (by omega) (by omega)
set_option maxRecDepth 10000 in
set_option maxHeartbeats 4000000 in
theorem lc_19 {p : Program} {l : Launch} {e : Env} {s : State} {m : MethodId} {below : List Frame} {meth : Method} {c : Code} {b sl : Nat} {xs : Nat → Int32} {D : va_G} {tys : List (ClassId × FieldType)} {Q : State → Prop} {N cells slots : Nat} {I : zI} {μ : xM} {ls : Array Slot} {H : Heap} {locs : List Loc} {i : Int32} (C : lCx p s m meth c b sl xs D tys) (h0 : 0 ≤ i.toInt) (h6 : i.toInt + 6 ≤ (sl : Int)) (hM : zMem zG0 D tys s.heap.size N 0 s I μ H locs) (hL : lv_has ls 4 (lLv s.heap.size b i)) (hB : lwB I) (hR : lwR μ) (hce : cells + 12 ≤ 600000) (hsl : slots + 792 ≤ 7302250) (kk : ∀ (N' : Nat) (I' : zI) (μ' : xM) (H' : Heap) (locs' : List Loc) (cells' slots' : Nat), lwB I' → lwR μ' → zMem zG0 D tys s.heap.size N' 0 s I' μ' H' locs' → cells' ≤ cells + 6 → slots' ≤ slots + 396 → W p l e room_1 s m #[Value.ref b] below meth c H' locs' cells' slots' Q (F0 m 1249 ls [])) : W p l e room_1 s m #[Value.ref b] below meth c H locs cells slots Q (F0 m 765 ls []) := by
  obtain ⟨hx, hb, -⟩ := id C.1
  refine lv_aload_n hx hb dW_765 rfl (lv_at hL 1 rfl) ?_
  refine lw_ld (kv := 1) C hM hL dW_766 dW_767 dW_768 (by decide) dW_769 dW_770 h0 h6 (by decide) (by decide) (fun z766 => ?_)
  refine lw_ld (kv := 2) C hM hL dW_771 dW_772 dW_773 (by decide) dW_774 dW_775 h0 h6 (by decide) (by decide) (fun z771 => ?_)
  refine lw_tab (us := [z766, z771]) (a := 0) C hM hL.1 hB dW_776 dW_779 zl_99 rfl wd_1126 wd_1127 wd_1128 rfl (by decide) zh_99 (by decide +kernel) (by decide +kernel) (by decide) ⟨_, _, rfl, rfl, ⟨_, _, rfl, ⟨_, rfl, an_lo _, an_hi _⟩, ⟨_, _, rfl, ⟨_, rfl, an_lo _, an_hi _⟩, rfl⟩⟩⟩ rfl rfl (Or.inl rfl) (by omega) (by omega) (fun N1 I1 μ1 H1 locs1 ce1 sl1 hP1 hB1 hM1 hc1 hs1 => ?_)
  obtain ⟨r1, -, hE1⟩ := hP1
  rw [show zbd 99 = (0, 0) from rfl] at hc1 hs1
  replace hc1 : ce1 = cells + 0 := hc1
  replace hs1 : sl1 = slots + 0 := hs1
  refine lv_aload_n hx hb dW_780 rfl (lv_at hL 2 rfl) ?_
  refine lw_ld (kv := 1) C hM1 hL dW_781 dW_782 dW_783 (by decide) dW_784 dW_785 h0 h6 (by decide) (by decide) (fun z781 => ?_)
  refine lw_ld (kv := 2) C hM1 hL dW_786 dW_787 dW_788 (by decide) dW_789 dW_790 h0 h6 (by decide) (by decide) (fun z786 => ?_)
  refine lw_tab (us := [z781, z786]) (a := 75) C hM1 hL.1 hB1 dW_791 dW_794 zl_189 rfl wd_1826 wd_1827 wd_1828 rfl (by decide) zh_189 (by decide +kernel) (by decide +kernel) (by decide) ⟨_, _, rfl, rfl, ⟨_, _, rfl, ⟨_, rfl, an_lo _, an_hi _⟩, ⟨_, _, rfl, ⟨_, rfl, an_lo _, an_hi _⟩, rfl⟩⟩⟩ rfl rfl (Or.inl rfl) (by omega) (by omega) (fun N2 I2 μ2 H2 locs2 ce2 sl2 hP2 hB2 hM2 hc2 hs2 => ?_)
  obtain ⟨r2, -, hE2⟩ := hP2
  rw [show zbd 189 = (0, 0) from rfl] at hc2 hs2
  replace hc2 : ce2 = ce1 + 0 := hc2
  replace hs2 : sl2 = sl1 + 0 := hs2
  refine lv_goto hx hb dW_795 (tgt := 1249) (by decide) ?_
  exact kk N2 I2 μ2 H2 locs2 ce2 sl2 hB2 (lwR_2 xm_94 (by decide +kernel) xm_163 (by decide +kernel) hE1 hE2 hR) hM2 (by omega) (by omega)
set_option maxRecDepth 10000 in
set_option maxHeartbeats 4000000 in
theorem lc_20 {p : Program} {l : Launch} {e : Env} {s : State} {m : MethodId} {below : List Frame} {meth : Method} {c : Code} {b sl : Nat} {xs : Nat → Int32} {D : va_G} {tys : List (ClassId × FieldType)} {Q : State → Prop} {N cells slots : Nat} {I : zI} {μ : xM} {ls : Array Slot} {H : Heap} {locs : List Loc} {i : Int32} (C : lCx p s m meth c b sl xs D tys) (h0 : 0 ≤ i.toInt) (h6 : i.toInt + 6 ≤ (sl : Int)) (hM : zMem zG0 D tys s.heap.size N 0 s I μ H locs) (hL : lv_has ls 4 (lLv s.heap.size b i)) (hB : lwB I) (hR : lwR μ) (hce : cells + 12 ≤ 600000) (hsl : slots + 792 ≤ 7302250) (kk : ∀ (N' : Nat) (I' : zI) (μ' : xM) (H' : Heap) (locs' : List Loc) (cells' slots' : Nat), lwB I' → lwR μ' → zMem zG0 D tys s.heap.size N' 0 s I' μ' H' locs' → cells' ≤ cells + 6 → slots' ≤ slots + 396 → W p l e room_1 s m #[Value.ref b] below meth c H' locs' cells' slots' Q (F0 m 1249 ls [])) : W p l e room_1 s m #[Value.ref b] below meth c H locs cells slots Q (F0 m 798 ls []) := by
  obtain ⟨hx, hb, -⟩ := id C.1
  refine lv_aload_n hx hb dW_798 rfl (lv_at hL 1 rfl) ?_
  refine lw_ld (kv := 1) C hM hL dW_799 dW_800 dW_801 (by decide) dW_802 dW_803 h0 h6 (by decide) (by decide) (fun z799 => ?_)
  refine lw_tab (us := [z799]) (a := 0) C hM hL.1 hB dW_804 dW_807 zl_78 rfl wd_1139 wd_1140 wd_1141 rfl (by decide) zh_78 (by decide +kernel) (by decide +kernel) (by decide) ⟨_, _, rfl, rfl, ⟨_, _, rfl, ⟨_, rfl, an_lo _, an_hi _⟩, rfl⟩⟩ rfl rfl (Or.inl rfl) (by omega) (by omega) (fun N1 I1 μ1 H1 locs1 ce1 sl1 hP1 hB1 hM1 hc1 hs1 => ?_)
  obtain ⟨r1, -, hE1⟩ := hP1
  rw [show zbd 78 = (0, 0) from rfl] at hc1 hs1
  replace hc1 : ce1 = cells + 0 := hc1
  replace hs1 : sl1 = slots + 0 := hs1
  refine lv_aload_n hx hb dW_808 rfl (lv_at hL 2 rfl) ?_
  refine lw_ld (kv := 1) C hM1 hL dW_809 dW_810 dW_811 (by decide) dW_812 dW_813 h0 h6 (by decide) (by decide) (fun z809 => ?_)
  refine lw_tab (us := [z809]) (a := 75) C hM1 hL.1 hB1 dW_814 dW_817 zl_127 rfl wd_1834 wd_1835 wd_1836 rfl (by decide) zh_127 (by decide +kernel) (by decide +kernel) (by decide) ⟨_, _, rfl, rfl, ⟨_, _, rfl, ⟨_, rfl, an_lo _, an_hi _⟩, rfl⟩⟩ rfl rfl (Or.inl rfl) (by omega) (by omega) (fun N2 I2 μ2 H2 locs2 ce2 sl2 hP2 hB2 hM2 hc2 hs2 => ?_)
  obtain ⟨r2, -, hE2⟩ := hP2
  rw [show zbd 127 = (0, 0) from rfl] at hc2 hs2
  replace hc2 : ce2 = ce1 + 0 := hc2
  replace hs2 : sl2 = sl1 + 0 := hs2
  refine lv_goto hx hb dW_818 (tgt := 1249) (by decide) ?_
  exact kk N2 I2 μ2 H2 locs2 ce2 sl2 hB2 (lwR_2 xm_73 (by decide +kernel) xm_120 (by decide +kernel) hE1 hE2 hR) hM2 (by omega) (by omega)
set_option maxRecDepth 10000 in
set_option maxHeartbeats 4000000 in
theorem lc_21 {p : Program} {l : Launch} {e : Env} {s : State} {m : MethodId} {below : List Frame} {meth : Method} {c : Code} {b sl : Nat} {xs : Nat → Int32} {D : va_G} {tys : List (ClassId × FieldType)} {Q : State → Prop} {N cells slots : Nat} {I : zI} {μ : xM} {ls : Array Slot} {H : Heap} {locs : List Loc} {i : Int32} (C : lCx p s m meth c b sl xs D tys) (h0 : 0 ≤ i.toInt) (h6 : i.toInt + 6 ≤ (sl : Int)) (hM : zMem zG0 D tys s.heap.size N 0 s I μ H locs) (hL : lv_has ls 4 (lLv s.heap.size b i)) (hB : lwB I) (hR : lwR μ) (hce : cells + 12 ≤ 600000) (hsl : slots + 792 ≤ 7302250) (kk : ∀ (N' : Nat) (I' : zI) (μ' : xM) (H' : Heap) (locs' : List Loc) (cells' slots' : Nat), lwB I' → lwR μ' → zMem zG0 D tys s.heap.size N' 0 s I' μ' H' locs' → cells' ≤ cells + 6 → slots' ≤ slots + 396 → W p l e room_1 s m #[Value.ref b] below meth c H' locs' cells' slots' Q (F0 m 1249 ls [])) : W p l e room_1 s m #[Value.ref b] below meth c H locs cells slots Q (F0 m 821 ls []) := by
  obtain ⟨hx, hb, -⟩ := id C.1
  refine lv_aload_n hx hb dW_821 rfl (lv_at hL 1 rfl) ?_
  refine lw_ld (kv := 1) C hM hL dW_822 dW_823 dW_824 (by decide) dW_825 dW_826 h0 h6 (by decide) (by decide) (fun z822 => ?_)
  refine lw_tab (us := [z822]) (a := 0) C hM hL.1 hB dW_827 dW_830 zl_108 rfl wd_1161 wd_1162 wd_1163 rfl (by decide) zh_108 (by decide +kernel) (by decide +kernel) (by decide) ⟨_, _, rfl, rfl, ⟨_, _, rfl, ⟨_, rfl, an_lo _, an_hi _⟩, rfl⟩⟩ rfl rfl (Or.inl rfl) (by omega) (by omega) (fun N1 I1 μ1 H1 locs1 ce1 sl1 hP1 hB1 hM1 hc1 hs1 => ?_)
  obtain ⟨r1, -, hE1⟩ := hP1
  rw [show zbd 108 = (0, 0) from rfl] at hc1 hs1
  replace hc1 : ce1 = cells + 0 := hc1
  replace hs1 : sl1 = slots + 0 := hs1
  refine lv_aload_n hx hb dW_831 rfl (lv_at hL 2 rfl) ?_
  refine lw_ld (kv := 1) C hM1 hL dW_832 dW_833 dW_834 (by decide) dW_835 dW_836 h0 h6 (by decide) (by decide) (fun z832 => ?_)
  refine lw_tab (us := [z832]) (a := 75) C hM1 hL.1 hB1 dW_837 dW_840 zl_213 rfl wd_1846 wd_1847 wd_1848 rfl (by decide) zh_213 (by decide +kernel) (by decide +kernel) (by decide) ⟨_, _, rfl, rfl, ⟨_, _, rfl, ⟨_, rfl, an_lo _, an_hi _⟩, rfl⟩⟩ rfl rfl (Or.inl rfl) (by omega) (by omega) (fun N2 I2 μ2 H2 locs2 ce2 sl2 hP2 hB2 hM2 hc2 hs2 => ?_)
  obtain ⟨r2, -, hE2⟩ := hP2
  rw [show zbd 213 = (0, 0) from rfl] at hc2 hs2
  replace hc2 : ce2 = ce1 + 0 := hc2
  replace hs2 : sl2 = sl1 + 0 := hs2
  refine lv_goto hx hb dW_841 (tgt := 1249) (by decide) ?_
  exact kk N2 I2 μ2 H2 locs2 ce2 sl2 hB2 (lwR_2 xm_103 (by decide +kernel) xm_186 (by decide +kernel) hE1 hE2 hR) hM2 (by omega) (by omega)
set_option maxRecDepth 10000 in
set_option maxHeartbeats 4000000 in
theorem lc_22 {p : Program} {l : Launch} {e : Env} {s : State} {m : MethodId} {below : List Frame} {meth : Method} {c : Code} {b sl : Nat} {xs : Nat → Int32} {D : va_G} {tys : List (ClassId × FieldType)} {Q : State → Prop} {N cells slots : Nat} {I : zI} {μ : xM} {ls : Array Slot} {H : Heap} {locs : List Loc} {i : Int32} (C : lCx p s m meth c b sl xs D tys) (h0 : 0 ≤ i.toInt) (h6 : i.toInt + 6 ≤ (sl : Int)) (hM : zMem zG0 D tys s.heap.size N 0 s I μ H locs) (hL : lv_has ls 4 (lLv s.heap.size b i)) (hB : lwB I) (hR : lwR μ) (hce : cells + 12 ≤ 600000) (hsl : slots + 792 ≤ 7302250) (kk : ∀ (N' : Nat) (I' : zI) (μ' : xM) (H' : Heap) (locs' : List Loc) (cells' slots' : Nat), lwB I' → lwR μ' → zMem zG0 D tys s.heap.size N' 0 s I' μ' H' locs' → cells' ≤ cells + 6 → slots' ≤ slots + 396 → W p l e room_1 s m #[Value.ref b] below meth c H' locs' cells' slots' Q (F0 m 1249 ls [])) : W p l e room_1 s m #[Value.ref b] below meth c H locs cells slots Q (F0 m 844 ls []) := by
  obtain ⟨hx, hb, -⟩ := id C.1
  refine lv_aload_n hx hb dW_844 rfl (lv_at hL 1 rfl) ?_
  refine lw_ld (kv := 1) C hM hL dW_845 dW_846 dW_847 (by decide) dW_848 dW_849 h0 h6 (by decide) (by decide) (fun z845 => ?_)
  refine lw_tab (us := [z845]) (a := 0) C hM hL.1 hB dW_850 dW_853 zl_81 rfl wd_1169 wd_1170 wd_1171 rfl (by decide) zh_81 (by decide +kernel) (by decide +kernel) (by decide) ⟨_, _, rfl, rfl, ⟨_, _, rfl, ⟨_, rfl, an_lo _, an_hi _⟩, rfl⟩⟩ rfl rfl (Or.inl rfl) (by omega) (by omega) (fun N1 I1 μ1 H1 locs1 ce1 sl1 hP1 hB1 hM1 hc1 hs1 => ?_)
  obtain ⟨r1, -, hE1⟩ := hP1
  rw [show zbd 81 = (0, 0) from rfl] at hc1 hs1
  replace hc1 : ce1 = cells + 0 := hc1
  replace hs1 : sl1 = slots + 0 := hs1
  refine lv_aload_n hx hb dW_854 rfl (lv_at hL 2 rfl) ?_
  refine lw_ld (kv := 1) C hM1 hL dW_855 dW_856 dW_857 (by decide) dW_858 dW_859 h0 h6 (by decide) (by decide) (fun z855 => ?_)
  refine lw_tab (us := [z855]) (a := 75) C hM1 hL.1 hB1 dW_860 dW_863 zl_133 rfl wd_1850 wd_1851 wd_1852 rfl (by decide) zh_133 (by decide +kernel) (by decide +kernel) (by decide) ⟨_, _, rfl, rfl, ⟨_, _, rfl, ⟨_, rfl, an_lo _, an_hi _⟩, rfl⟩⟩ rfl rfl (Or.inl rfl) (by omega) (by omega) (fun N2 I2 μ2 H2 locs2 ce2 sl2 hP2 hB2 hM2 hc2 hs2 => ?_)
  obtain ⟨r2, -, hE2⟩ := hP2
  rw [show zbd 133 = (0, 0) from rfl] at hc2 hs2
  replace hc2 : ce2 = ce1 + 0 := hc2
  replace hs2 : sl2 = sl1 + 0 := hs2
  refine lv_goto hx hb dW_864 (tgt := 1249) (by decide) ?_
  exact kk N2 I2 μ2 H2 locs2 ce2 sl2 hB2 (lwR_2 xm_76 (by decide +kernel) xm_126 (by decide +kernel) hE1 hE2 hR) hM2 (by omega) (by omega)
set_option maxRecDepth 10000 in
set_option maxHeartbeats 4000000 in
theorem lc_23 {p : Program} {l : Launch} {e : Env} {s : State} {m : MethodId} {below : List Frame} {meth : Method} {c : Code} {b sl : Nat} {xs : Nat → Int32} {D : va_G} {tys : List (ClassId × FieldType)} {Q : State → Prop} {N cells slots : Nat} {I : zI} {μ : xM} {ls : Array Slot} {H : Heap} {locs : List Loc} {i : Int32} (C : lCx p s m meth c b sl xs D tys) (h0 : 0 ≤ i.toInt) (h6 : i.toInt + 6 ≤ (sl : Int)) (hM : zMem zG0 D tys s.heap.size N 0 s I μ H locs) (hL : lv_has ls 4 (lLv s.heap.size b i)) (hB : lwB I) (hR : lwR μ) (hce : cells + 12 ≤ 600000) (hsl : slots + 792 ≤ 7302250) (kk : ∀ (N' : Nat) (I' : zI) (μ' : xM) (H' : Heap) (locs' : List Loc) (cells' slots' : Nat), lwB I' → lwR μ' → zMem zG0 D tys s.heap.size N' 0 s I' μ' H' locs' → cells' ≤ cells + 6 → slots' ≤ slots + 396 → W p l e room_1 s m #[Value.ref b] below meth c H' locs' cells' slots' Q (F0 m 1249 ls [])) : W p l e room_1 s m #[Value.ref b] below meth c H locs cells slots Q (F0 m 867 ls []) := by
  obtain ⟨hx, hb, -⟩ := id C.1
  refine lv_aload_n hx hb dW_867 rfl (lv_at hL 1 rfl) ?_
  refine lw_tab (us := []) (a := 0) C hM hL.1 hB dW_868 dW_871 zl_97 rfl wd_1173 wd_1174 wd_1175 rfl (by decide) zh_97 (by decide +kernel) (by decide +kernel) (by decide) ⟨_, _, rfl, rfl, rfl⟩ rfl rfl (Or.inl rfl) (by omega) (by omega) (fun N1 I1 μ1 H1 locs1 ce1 sl1 hP1 hB1 hM1 hc1 hs1 => ?_)
  obtain ⟨r1, -, hE1⟩ := hP1
  rw [show zbd 97 = (0, 0) from rfl] at hc1 hs1
  replace hc1 : ce1 = cells + 0 := hc1
  replace hs1 : sl1 = slots + 0 := hs1
  refine lv_aload_n hx hb dW_872 rfl (lv_at hL 2 rfl) ?_
  refine lw_tab (us := []) (a := 75) C hM1 hL.1 hB1 dW_873 dW_876 zl_184 rfl wd_1854 wd_1855 wd_1856 rfl (by decide) zh_184 (by decide +kernel) (by decide +kernel) (by decide) ⟨_, _, rfl, rfl, rfl⟩ rfl rfl (Or.inl rfl) (by omega) (by omega) (fun N2 I2 μ2 H2 locs2 ce2 sl2 hP2 hB2 hM2 hc2 hs2 => ?_)
  obtain ⟨r2, -, hE2⟩ := hP2
  rw [show zbd 184 = (0, 0) from rfl] at hc2 hs2
  replace hc2 : ce2 = ce1 + 0 := hc2
  replace hs2 : sl2 = sl1 + 0 := hs2
  refine lv_goto hx hb dW_877 (tgt := 1249) (by decide) ?_
  exact kk N2 I2 μ2 H2 locs2 ce2 sl2 hB2 (lwR_2 xm_92 (by decide +kernel) xm_158 (by decide +kernel) hE1 hE2 hR) hM2 (by omega) (by omega)
set_option maxRecDepth 10000 in
set_option maxHeartbeats 4000000 in
theorem lc_24 {p : Program} {l : Launch} {e : Env} {s : State} {m : MethodId} {below : List Frame} {meth : Method} {c : Code} {b sl : Nat} {xs : Nat → Int32} {D : va_G} {tys : List (ClassId × FieldType)} {Q : State → Prop} {N cells slots : Nat} {I : zI} {μ : xM} {ls : Array Slot} {H : Heap} {locs : List Loc} {i : Int32} (C : lCx p s m meth c b sl xs D tys) (h0 : 0 ≤ i.toInt) (h6 : i.toInt + 6 ≤ (sl : Int)) (hM : zMem zG0 D tys s.heap.size N 0 s I μ H locs) (hL : lv_has ls 4 (lLv s.heap.size b i)) (hB : lwB I) (hR : lwR μ) (hce : cells + 12 ≤ 600000) (hsl : slots + 792 ≤ 7302250) (kk : ∀ (N' : Nat) (I' : zI) (μ' : xM) (H' : Heap) (locs' : List Loc) (cells' slots' : Nat), lwB I' → lwR μ' → zMem zG0 D tys s.heap.size N' 0 s I' μ' H' locs' → cells' ≤ cells + 6 → slots' ≤ slots + 396 → W p l e room_1 s m #[Value.ref b] below meth c H' locs' cells' slots' Q (F0 m 1249 ls [])) : W p l e room_1 s m #[Value.ref b] below meth c H locs cells slots Q (F0 m 880 ls []) := by
  obtain ⟨hx, hb, -⟩ := id C.1
  refine lv_aload_n hx hb dW_880 rfl (lv_at hL 1 rfl) ?_
  refine lw_ld (kv := 1) C hM hL dW_881 dW_882 dW_883 (by decide) dW_884 dW_885 h0 h6 (by decide) (by decide) (fun z881 => ?_)
  refine lw_ld (kv := 2) C hM hL dW_886 dW_887 dW_888 (by decide) dW_889 dW_890 h0 h6 (by decide) (by decide) (fun z886 => ?_)
  refine lw_tab (us := [z881, z886]) (a := 0) C hM hL.1 hB dW_891 dW_894 zl_120 rfl wd_1177 wd_1178 wd_1179 rfl (by decide) zh_120 (by decide +kernel) (by decide +kernel) (by decide) ⟨_, _, rfl, rfl, ⟨_, _, rfl, ⟨_, rfl, an_lo _, an_hi _⟩, ⟨_, _, rfl, ⟨_, rfl, an_lo _, an_hi _⟩, rfl⟩⟩⟩ rfl rfl (Or.inl rfl) (by omega) (by omega) (fun N1 I1 μ1 H1 locs1 ce1 sl1 hP1 hB1 hM1 hc1 hs1 => ?_)
  obtain ⟨r1, -, hE1⟩ := hP1
  rw [show zbd 120 = (0, 0) from rfl] at hc1 hs1
  replace hc1 : ce1 = cells + 0 := hc1
  replace hs1 : sl1 = slots + 0 := hs1
  refine lv_aload_n hx hb dW_895 rfl (lv_at hL 2 rfl) ?_
  refine lw_ld (kv := 1) C hM1 hL dW_896 dW_897 dW_898 (by decide) dW_899 dW_900 h0 h6 (by decide) (by decide) (fun z896 => ?_)
  refine lw_ld (kv := 2) C hM1 hL dW_901 dW_902 dW_903 (by decide) dW_904 dW_905 h0 h6 (by decide) (by decide) (fun z901 => ?_)
  refine lw_tab (us := [z896, z901]) (a := 75) C hM1 hL.1 hB1 dW_906 dW_909 zl_229 rfl wd_1858 wd_1859 wd_1860 rfl (by decide) zh_229 (by decide +kernel) (by decide +kernel) (by decide) ⟨_, _, rfl, rfl, ⟨_, _, rfl, ⟨_, rfl, an_lo _, an_hi _⟩, ⟨_, _, rfl, ⟨_, rfl, an_lo _, an_hi _⟩, rfl⟩⟩⟩ rfl rfl (Or.inl rfl) (by omega) (by omega) (fun N2 I2 μ2 H2 locs2 ce2 sl2 hP2 hB2 hM2 hc2 hs2 => ?_)
  obtain ⟨r2, -, hE2⟩ := hP2
  rw [show zbd 229 = (0, 0) from rfl] at hc2 hs2
  replace hc2 : ce2 = ce1 + 0 := hc2
  replace hs2 : sl2 = sl1 + 0 := hs2
  refine lv_goto hx hb dW_910 (tgt := 1249) (by decide) ?_
  exact kk N2 I2 μ2 H2 locs2 ce2 sl2 hB2 (lwR_2 xm_113 (by decide +kernel) xm_202 (by decide +kernel) hE1 hE2 hR) hM2 (by omega) (by omega)
set_option maxRecDepth 10000 in
set_option maxHeartbeats 4000000 in
theorem lc_25 {p : Program} {l : Launch} {e : Env} {s : State} {m : MethodId} {below : List Frame} {meth : Method} {c : Code} {b sl : Nat} {xs : Nat → Int32} {D : va_G} {tys : List (ClassId × FieldType)} {Q : State → Prop} {N cells slots : Nat} {I : zI} {μ : xM} {ls : Array Slot} {H : Heap} {locs : List Loc} {i : Int32} (C : lCx p s m meth c b sl xs D tys) (h0 : 0 ≤ i.toInt) (h6 : i.toInt + 6 ≤ (sl : Int)) (hM : zMem zG0 D tys s.heap.size N 0 s I μ H locs) (hL : lv_has ls 4 (lLv s.heap.size b i)) (hB : lwB I) (hR : lwR μ) (hce : cells + 12 ≤ 600000) (hsl : slots + 792 ≤ 7302250) (kk : ∀ (N' : Nat) (I' : zI) (μ' : xM) (H' : Heap) (locs' : List Loc) (cells' slots' : Nat), lwB I' → lwR μ' → zMem zG0 D tys s.heap.size N' 0 s I' μ' H' locs' → cells' ≤ cells + 6 → slots' ≤ slots + 396 → W p l e room_1 s m #[Value.ref b] below meth c H' locs' cells' slots' Q (F0 m 1249 ls [])) : W p l e room_1 s m #[Value.ref b] below meth c H locs cells slots Q (F0 m 913 ls []) := by
  obtain ⟨hx, hb, -⟩ := id C.1
  refine lv_aload_n hx hb dW_913 rfl (lv_at hL 1 rfl) ?_
  refine lw_ld (kv := 1) C hM hL dW_914 dW_915 dW_916 (by decide) dW_917 dW_918 h0 h6 (by decide) (by decide) (fun z914 => ?_)
  refine lw_ld (kv := 2) C hM hL dW_919 dW_920 dW_921 (by decide) dW_922 dW_923 h0 h6 (by decide) (by decide) (fun z919 => ?_)
  refine lw_ld (kv := 3) C hM hL dW_924 dW_925 dW_926 (by decide) dW_927 dW_928 h0 h6 (by decide) (by decide) (fun z924 => ?_)
  refine lw_ld (kv := 4) C hM hL dW_929 dW_930 dW_931 (by decide) dW_932 dW_933 h0 h6 (by decide) (by decide) (fun z929 => ?_)
  refine lw_tab (us := [z914, z919, z924, z929]) (a := 0) C hM hL.1 hB dW_934 dW_937 zl_114 rfl wd_1185 wd_1186 wd_1187 rfl (by decide) zh_114 (by decide +kernel) (by decide +kernel) (by decide) ⟨_, _, rfl, rfl, ⟨_, _, rfl, ⟨_, rfl, an_lo _, an_hi _⟩, ⟨_, _, rfl, ⟨_, rfl, an_lo _, an_hi _⟩, ⟨_, _, rfl, ⟨_, rfl, an_lo _, an_hi _⟩, ⟨_, _, rfl, ⟨_, rfl, an_lo _, an_hi _⟩, rfl⟩⟩⟩⟩⟩ rfl rfl (Or.inl rfl) (by omega) (by omega) (fun N1 I1 μ1 H1 locs1 ce1 sl1 hP1 hB1 hM1 hc1 hs1 => ?_)
  obtain ⟨r1, -, hE1⟩ := hP1
  rw [show zbd 114 = (0, 0) from rfl] at hc1 hs1
  replace hc1 : ce1 = cells + 0 := hc1
  replace hs1 : sl1 = slots + 0 := hs1
  refine lv_aload_n hx hb dW_938 rfl (lv_at hL 2 rfl) ?_
  refine lw_ld (kv := 1) C hM1 hL dW_939 dW_940 dW_941 (by decide) dW_942 dW_943 h0 h6 (by decide) (by decide) (fun z939 => ?_)
  refine lw_ld (kv := 2) C hM1 hL dW_944 dW_945 dW_946 (by decide) dW_947 dW_948 h0 h6 (by decide) (by decide) (fun z944 => ?_)
  refine lw_ld (kv := 3) C hM1 hL dW_949 dW_950 dW_951 (by decide) dW_952 dW_953 h0 h6 (by decide) (by decide) (fun z949 => ?_)
  refine lw_ld (kv := 4) C hM1 hL dW_954 dW_955 dW_956 (by decide) dW_957 dW_958 h0 h6 (by decide) (by decide) (fun z954 => ?_)
  refine lw_tab (us := [z939, z944, z949, z954]) (a := 75) C hM1 hL.1 hB1 dW_959 dW_962 zl_217 rfl wd_1862 wd_1863 wd_1864 rfl (by decide) zh_217 (by decide +kernel) (by decide +kernel) (by decide) ⟨_, _, rfl, rfl, ⟨_, _, rfl, ⟨_, rfl, an_lo _, an_hi _⟩, ⟨_, _, rfl, ⟨_, rfl, an_lo _, an_hi _⟩, ⟨_, _, rfl, ⟨_, rfl, an_lo _, an_hi _⟩, ⟨_, _, rfl, ⟨_, rfl, an_lo _, an_hi _⟩, rfl⟩⟩⟩⟩⟩ rfl rfl (Or.inl rfl) (by omega) (by omega) (fun N2 I2 μ2 H2 locs2 ce2 sl2 hP2 hB2 hM2 hc2 hs2 => ?_)
  obtain ⟨r2, -, hE2⟩ := hP2
  rw [show zbd 217 = (0, 0) from rfl] at hc2 hs2
  replace hc2 : ce2 = ce1 + 0 := hc2
  replace hs2 : sl2 = sl1 + 0 := hs2
  refine lv_goto hx hb dW_963 (tgt := 1249) (by decide) ?_
  exact kk N2 I2 μ2 H2 locs2 ce2 sl2 hB2 (lwR_2 xm_107 (by decide +kernel) xm_190 (by decide +kernel) hE1 hE2 hR) hM2 (by omega) (by omega)
set_option maxRecDepth 10000 in
set_option maxHeartbeats 4000000 in
theorem lc_26 {p : Program} {l : Launch} {e : Env} {s : State} {m : MethodId} {below : List Frame} {meth : Method} {c : Code} {b sl : Nat} {xs : Nat → Int32} {D : va_G} {tys : List (ClassId × FieldType)} {Q : State → Prop} {N cells slots : Nat} {I : zI} {μ : xM} {ls : Array Slot} {H : Heap} {locs : List Loc} {i : Int32} (C : lCx p s m meth c b sl xs D tys) (h0 : 0 ≤ i.toInt) (h6 : i.toInt + 6 ≤ (sl : Int)) (hM : zMem zG0 D tys s.heap.size N 0 s I μ H locs) (hL : lv_has ls 4 (lLv s.heap.size b i)) (hB : lwB I) (hR : lwR μ) (hce : cells + 12 ≤ 600000) (hsl : slots + 792 ≤ 7302250) (kk : ∀ (N' : Nat) (I' : zI) (μ' : xM) (H' : Heap) (locs' : List Loc) (cells' slots' : Nat), lwB I' → lwR μ' → zMem zG0 D tys s.heap.size N' 0 s I' μ' H' locs' → cells' ≤ cells + 6 → slots' ≤ slots + 396 → W p l e room_1 s m #[Value.ref b] below meth c H' locs' cells' slots' Q (F0 m 1249 ls [])) : W p l e room_1 s m #[Value.ref b] below meth c H locs cells slots Q (F0 m 966 ls []) := by
  obtain ⟨hx, hb, -⟩ := id C.1
  refine lv_aload_n hx hb dW_966 rfl (lv_at hL 1 rfl) ?_
  refine lw_ld (kv := 1) C hM hL dW_967 dW_968 dW_969 (by decide) dW_970 dW_971 h0 h6 (by decide) (by decide) (fun z967 => ?_)
  refine lw_tab (us := [z967]) (a := 0) C hM hL.1 hB dW_972 dW_975 zl_100 rfl wd_1189 wd_1190 wd_1191 rfl (by decide) zh_100 (by decide +kernel) (by decide +kernel) (by decide) ⟨_, _, rfl, rfl, ⟨_, _, rfl, ⟨_, rfl, an_lo _, an_hi _⟩, rfl⟩⟩ rfl rfl (Or.inl rfl) (by omega) (by omega) (fun N1 I1 μ1 H1 locs1 ce1 sl1 hP1 hB1 hM1 hc1 hs1 => ?_)
  obtain ⟨r1, -, hE1⟩ := hP1
  rw [show zbd 100 = (0, 0) from rfl] at hc1 hs1
  replace hc1 : ce1 = cells + 0 := hc1
  replace hs1 : sl1 = slots + 0 := hs1
  refine lv_aload_n hx hb dW_976 rfl (lv_at hL 2 rfl) ?_
  refine lw_ld (kv := 1) C hM1 hL dW_977 dW_978 dW_979 (by decide) dW_980 dW_981 h0 h6 (by decide) (by decide) (fun z977 => ?_)
  refine lw_tab (us := [z977]) (a := 75) C hM1 hL.1 hB1 dW_982 dW_985 zl_201 rfl wd_1866 wd_1867 wd_1868 rfl (by decide) zh_201 (by decide +kernel) (by decide +kernel) (by decide) ⟨_, _, rfl, rfl, ⟨_, _, rfl, ⟨_, rfl, an_lo _, an_hi _⟩, rfl⟩⟩ rfl rfl (Or.inl rfl) (by omega) (by omega) (fun N2 I2 μ2 H2 locs2 ce2 sl2 hP2 hB2 hM2 hc2 hs2 => ?_)
  obtain ⟨r2, -, hE2⟩ := hP2
  rw [show zbd 201 = (0, 0) from rfl] at hc2 hs2
  replace hc2 : ce2 = ce1 + 0 := hc2
  replace hs2 : sl2 = sl1 + 0 := hs2
  refine lv_goto hx hb dW_986 (tgt := 1249) (by decide) ?_
  exact kk N2 I2 μ2 H2 locs2 ce2 sl2 hB2 (lwR_2 xm_95 (by decide +kernel) xm_174 (by decide +kernel) hE1 hE2 hR) hM2 (by omega) (by omega)
set_option maxRecDepth 10000 in
set_option maxHeartbeats 4000000 in
theorem lc_27 {p : Program} {l : Launch} {e : Env} {s : State} {m : MethodId} {below : List Frame} {meth : Method} {c : Code} {b sl : Nat} {xs : Nat → Int32} {D : va_G} {tys : List (ClassId × FieldType)} {Q : State → Prop} {N cells slots : Nat} {I : zI} {μ : xM} {ls : Array Slot} {H : Heap} {locs : List Loc} {i : Int32} (C : lCx p s m meth c b sl xs D tys) (h0 : 0 ≤ i.toInt) (h6 : i.toInt + 6 ≤ (sl : Int)) (hM : zMem zG0 D tys s.heap.size N 0 s I μ H locs) (hL : lv_has ls 4 (lLv s.heap.size b i)) (hB : lwB I) (hR : lwR μ) (hce : cells + 12 ≤ 600000) (hsl : slots + 792 ≤ 7302250) (kk : ∀ (N' : Nat) (I' : zI) (μ' : xM) (H' : Heap) (locs' : List Loc) (cells' slots' : Nat), lwB I' → lwR μ' → zMem zG0 D tys s.heap.size N' 0 s I' μ' H' locs' → cells' ≤ cells + 6 → slots' ≤ slots + 396 → W p l e room_1 s m #[Value.ref b] below meth c H' locs' cells' slots' Q (F0 m 1249 ls [])) : W p l e room_1 s m #[Value.ref b] below meth c H locs cells slots Q (F0 m 989 ls []) := by
  obtain ⟨hx, hb, -⟩ := id C.1
  refine lv_aload_n hx hb dW_989 rfl (lv_at hL 1 rfl) ?_
  refine lw_ld (kv := 1) C hM hL dW_990 dW_991 dW_992 (by decide) dW_993 dW_994 h0 h6 (by decide) (by decide) (fun z990 => ?_)
  refine lw_ld (kv := 2) C hM hL dW_995 dW_996 dW_997 (by decide) dW_998 dW_999 h0 h6 (by decide) (by decide) (fun z995 => ?_)
  refine lw_ld (kv := 3) C hM hL dW_1000 dW_1001 dW_1002 (by decide) dW_1003 dW_1004 h0 h6 (by decide) (by decide) (fun z1000 => ?_)
  refine lw_ld (kv := 4) C hM hL dW_1005 dW_1006 dW_1007 (by decide) dW_1008 dW_1009 h0 h6 (by decide) (by decide) (fun z1005 => ?_)
  refine lw_tab (us := [z990, z995, z1000, z1005]) (a := 0) C hM hL.1 hB dW_1010 dW_1013 zl_122 rfl wd_1193 wd_1194 wd_1195 rfl (by decide) zh_122 (by decide +kernel) (by decide +kernel) (by decide) ⟨_, _, rfl, rfl, ⟨_, _, rfl, ⟨_, rfl, an_lo _, an_hi _⟩, ⟨_, _, rfl, ⟨_, rfl, an_lo _, an_hi _⟩, ⟨_, _, rfl, ⟨_, rfl, an_lo _, an_hi _⟩, ⟨_, _, rfl, ⟨_, rfl, an_lo _, an_hi _⟩, rfl⟩⟩⟩⟩⟩ rfl rfl (Or.inl rfl) (by omega) (by omega) (fun N1 I1 μ1 H1 locs1 ce1 sl1 hP1 hB1 hM1 hc1 hs1 => ?_)
  obtain ⟨r1, -, hE1⟩ := hP1
  rw [show zbd 122 = (0, 0) from rfl] at hc1 hs1
  replace hc1 : ce1 = cells + 0 := hc1
  replace hs1 : sl1 = slots + 0 := hs1
  refine lv_aload_n hx hb dW_1014 rfl (lv_at hL 2 rfl) ?_
  refine lw_ld (kv := 1) C hM1 hL dW_1015 dW_1016 dW_1017 (by decide) dW_1018 dW_1019 h0 h6 (by decide) (by decide) (fun z1015 => ?_)
  refine lw_ld (kv := 2) C hM1 hL dW_1020 dW_1021 dW_1022 (by decide) dW_1023 dW_1024 h0 h6 (by decide) (by decide) (fun z1020 => ?_)
  refine lw_ld (kv := 3) C hM1 hL dW_1025 dW_1026 dW_1027 (by decide) dW_1028 dW_1029 h0 h6 (by decide) (by decide) (fun z1025 => ?_)
  refine lw_ld (kv := 4) C hM1 hL dW_1030 dW_1031 dW_1032 (by decide) dW_1033 dW_1034 h0 h6 (by decide) (by decide) (fun z1030 => ?_)
  refine lw_tab (us := [z1015, z1020, z1025, z1030]) (a := 75) C hM1 hL.1 hB1 dW_1035 dW_1038 zl_232 rfl wd_1870 wd_1871 wd_1872 rfl (by decide) zh_232 (by decide +kernel) (by decide +kernel) (by decide) ⟨_, _, rfl, rfl, ⟨_, _, rfl, ⟨_, rfl, an_lo _, an_hi _⟩, ⟨_, _, rfl, ⟨_, rfl, an_lo _, an_hi _⟩, ⟨_, _, rfl, ⟨_, rfl, an_lo _, an_hi _⟩, ⟨_, _, rfl, ⟨_, rfl, an_lo _, an_hi _⟩, rfl⟩⟩⟩⟩⟩ rfl rfl (Or.inl rfl) (by omega) (by omega) (fun N2 I2 μ2 H2 locs2 ce2 sl2 hP2 hB2 hM2 hc2 hs2 => ?_)
  obtain ⟨r2, -, hE2⟩ := hP2
  rw [show zbd 232 = (0, 0) from rfl] at hc2 hs2
  replace hc2 : ce2 = ce1 + 0 := hc2
  replace hs2 : sl2 = sl1 + 0 := hs2
  refine lv_goto hx hb dW_1039 (tgt := 1249) (by decide) ?_
  exact kk N2 I2 μ2 H2 locs2 ce2 sl2 hB2 (lwR_2 xm_115 (by decide +kernel) xm_205 (by decide +kernel) hE1 hE2 hR) hM2 (by omega) (by omega)
set_option maxRecDepth 10000 in
set_option maxHeartbeats 4000000 in
theorem lc_28 {p : Program} {l : Launch} {e : Env} {s : State} {m : MethodId} {below : List Frame} {meth : Method} {c : Code} {b sl : Nat} {xs : Nat → Int32} {D : va_G} {tys : List (ClassId × FieldType)} {Q : State → Prop} {N cells slots : Nat} {I : zI} {μ : xM} {ls : Array Slot} {H : Heap} {locs : List Loc} {i : Int32} (C : lCx p s m meth c b sl xs D tys) (h0 : 0 ≤ i.toInt) (h6 : i.toInt + 6 ≤ (sl : Int)) (hM : zMem zG0 D tys s.heap.size N 0 s I μ H locs) (hL : lv_has ls 4 (lLv s.heap.size b i)) (hB : lwB I) (hR : lwR μ) (hce : cells + 12 ≤ 600000) (hsl : slots + 792 ≤ 7302250) (kk : ∀ (N' : Nat) (I' : zI) (μ' : xM) (H' : Heap) (locs' : List Loc) (cells' slots' : Nat), lwB I' → lwR μ' → zMem zG0 D tys s.heap.size N' 0 s I' μ' H' locs' → cells' ≤ cells + 6 → slots' ≤ slots + 396 → W p l e room_1 s m #[Value.ref b] below meth c H' locs' cells' slots' Q (F0 m 1249 ls [])) : W p l e room_1 s m #[Value.ref b] below meth c H locs cells slots Q (F0 m 1042 ls []) := by
  obtain ⟨hx, hb, -⟩ := id C.1
  refine lv_aload_n hx hb dW_1042 rfl (lv_at hL 1 rfl) ?_
  refine lw_ld (kv := 1) C hM hL dW_1043 dW_1044 dW_1045 (by decide) dW_1046 dW_1047 h0 h6 (by decide) (by decide) (fun z1043 => ?_)
  refine lw_ld (kv := 2) C hM hL dW_1048 dW_1049 dW_1050 (by decide) dW_1051 dW_1052 h0 h6 (by decide) (by decide) (fun z1048 => ?_)
  refine lw_ld (kv := 3) C hM hL dW_1053 dW_1054 dW_1055 (by decide) dW_1056 dW_1057 h0 h6 (by decide) (by decide) (fun z1053 => ?_)
  refine lv_if_eq hx hb dW_1058 (tgt := 1065) (by decide) (fun _ => ?_) (fun _ => ?_)
  · refine lv_iconst hx hb dW_1065 (v := 0) (by decide) ?_
    refine lw_tab (us := [z1043, z1048, 0]) (a := 0) C hM hL.1 hB dW_1066 dW_1069 zl_112 rfl wd_1197 wd_1198 wd_1199 rfl (by decide) zh_112 (by decide +kernel) (by decide +kernel) (by decide) ⟨_, _, rfl, rfl, ⟨_, _, rfl, ⟨_, rfl, an_lo _, an_hi _⟩, ⟨_, _, rfl, ⟨_, rfl, an_lo _, an_hi _⟩, ⟨_, _, rfl, ⟨_, rfl, by decide, by decide⟩, rfl⟩⟩⟩⟩ rfl rfl (Or.inl rfl) (by omega) (by omega) (fun N1t I1t μ1t H1t locs1t ce1t sl1t hP1t hB1t hM1t hc1t hs1t => ?_)
    obtain ⟨r1t, -, hE1t⟩ := hP1t
    rw [show zbd 112 = (0, 0) from rfl] at hc1t hs1t
    replace hc1t : ce1t = cells + 0 := hc1t
    replace hs1t : sl1t = slots + 0 := hs1t
    refine lv_aload_n hx hb dW_1070 rfl (lv_at hL 2 rfl) ?_
    refine lw_ld (kv := 1) C hM1t hL dW_1071 dW_1072 dW_1073 (by decide) dW_1074 dW_1075 h0 h6 (by decide) (by decide) (fun z1071t => ?_)
    refine lw_ld (kv := 2) C hM1t hL dW_1076 dW_1077 dW_1078 (by decide) dW_1079 dW_1080 h0 h6 (by decide) (by decide) (fun z1076t => ?_)
    refine lw_ld (kv := 3) C hM1t hL dW_1081 dW_1082 dW_1083 (by decide) dW_1084 dW_1085 h0 h6 (by decide) (by decide) (fun z1081t => ?_)
    refine lv_if_eq hx hb dW_1086 (tgt := 1093) (by decide) (fun _ => ?_) (fun _ => ?_)
    · refine lv_iconst hx hb dW_1093 (v := 0) (by decide) ?_
      refine lw_tab (us := [z1071t, z1076t, 0]) (a := 75) C hM1t hL.1 hB1t dW_1094 dW_1097 zl_215 rfl wd_1874 wd_1875 wd_1876 rfl (by decide) zh_215 (by decide +kernel) (by decide +kernel) (by decide) ⟨_, _, rfl, rfl, ⟨_, _, rfl, ⟨_, rfl, an_lo _, an_hi _⟩, ⟨_, _, rfl, ⟨_, rfl, an_lo _, an_hi _⟩, ⟨_, _, rfl, ⟨_, rfl, by decide, by decide⟩, rfl⟩⟩⟩⟩ rfl rfl (Or.inl rfl) (by omega) (by omega) (fun N2tt I2tt μ2tt H2tt locs2tt ce2tt sl2tt hP2tt hB2tt hM2tt hc2tt hs2tt => ?_)
      obtain ⟨r2tt, -, hE2tt⟩ := hP2tt
      rw [show zbd 215 = (0, 0) from rfl] at hc2tt hs2tt
      replace hc2tt : ce2tt = ce1t + 0 := hc2tt
      replace hs2tt : sl2tt = sl1t + 0 := hs2tt
      refine lv_goto hx hb dW_1098 (tgt := 1249) (by decide) ?_
      exact kk N2tt I2tt μ2tt H2tt locs2tt ce2tt sl2tt hB2tt (lwR_2 xm_105 (by decide +kernel) xm_188 (by decide +kernel) hE1t hE2tt hR) hM2tt (by omega) (by omega)
    · refine lv_iconst hx hb dW_1089 (v := 1) (by decide) ?_
      refine lv_goto hx hb dW_1090 (tgt := 1094) (by decide) ?_
      refine lw_tab (us := [z1071t, z1076t, 1]) (a := 75) C hM1t hL.1 hB1t dW_1094 dW_1097 zl_215 rfl wd_1874 wd_1875 wd_1876 rfl (by decide) zh_215 (by decide +kernel) (by decide +kernel) (by decide) ⟨_, _, rfl, rfl, ⟨_, _, rfl, ⟨_, rfl, an_lo _, an_hi _⟩, ⟨_, _, rfl, ⟨_, rfl, an_lo _, an_hi _⟩, ⟨_, _, rfl, ⟨_, rfl, by decide, by decide⟩, rfl⟩⟩⟩⟩ rfl rfl (Or.inl rfl) (by omega) (by omega) (fun N2tf I2tf μ2tf H2tf locs2tf ce2tf sl2tf hP2tf hB2tf hM2tf hc2tf hs2tf => ?_)
      obtain ⟨r2tf, -, hE2tf⟩ := hP2tf
      rw [show zbd 215 = (0, 0) from rfl] at hc2tf hs2tf
      replace hc2tf : ce2tf = ce1t + 0 := hc2tf
      replace hs2tf : sl2tf = sl1t + 0 := hs2tf
      refine lv_goto hx hb dW_1098 (tgt := 1249) (by decide) ?_
      exact kk N2tf I2tf μ2tf H2tf locs2tf ce2tf sl2tf hB2tf (lwR_2 xm_105 (by decide +kernel) xm_188 (by decide +kernel) hE1t hE2tf hR) hM2tf (by omega) (by omega)
  · refine lv_iconst hx hb dW_1061 (v := 1) (by decide) ?_
    refine lv_goto hx hb dW_1062 (tgt := 1066) (by decide) ?_
    refine lw_tab (us := [z1043, z1048, 1]) (a := 0) C hM hL.1 hB dW_1066 dW_1069 zl_112 rfl wd_1197 wd_1198 wd_1199 rfl (by decide) zh_112 (by decide +kernel) (by decide +kernel) (by decide) ⟨_, _, rfl, rfl, ⟨_, _, rfl, ⟨_, rfl, an_lo _, an_hi _⟩, ⟨_, _, rfl, ⟨_, rfl, an_lo _, an_hi _⟩, ⟨_, _, rfl, ⟨_, rfl, by decide, by decide⟩, rfl⟩⟩⟩⟩ rfl rfl (Or.inl rfl) (by omega) (by omega) (fun N1f I1f μ1f H1f locs1f ce1f sl1f hP1f hB1f hM1f hc1f hs1f => ?_)
    obtain ⟨r1f, -, hE1f⟩ := hP1f
    rw [show zbd 112 = (0, 0) from rfl] at hc1f hs1f
    replace hc1f : ce1f = cells + 0 := hc1f
    replace hs1f : sl1f = slots + 0 := hs1f
    refine lv_aload_n hx hb dW_1070 rfl (lv_at hL 2 rfl) ?_
    refine lw_ld (kv := 1) C hM1f hL dW_1071 dW_1072 dW_1073 (by decide) dW_1074 dW_1075 h0 h6 (by decide) (by decide) (fun z1071f => ?_)
    refine lw_ld (kv := 2) C hM1f hL dW_1076 dW_1077 dW_1078 (by decide) dW_1079 dW_1080 h0 h6 (by decide) (by decide) (fun z1076f => ?_)
    refine lw_ld (kv := 3) C hM1f hL dW_1081 dW_1082 dW_1083 (by decide) dW_1084 dW_1085 h0 h6 (by decide) (by decide) (fun z1081f => ?_)
    refine lv_if_eq hx hb dW_1086 (tgt := 1093) (by decide) (fun _ => ?_) (fun _ => ?_)
    · refine lv_iconst hx hb dW_1093 (v := 0) (by decide) ?_
      refine lw_tab (us := [z1071f, z1076f, 0]) (a := 75) C hM1f hL.1 hB1f dW_1094 dW_1097 zl_215 rfl wd_1874 wd_1875 wd_1876 rfl (by decide) zh_215 (by decide +kernel) (by decide +kernel) (by decide) ⟨_, _, rfl, rfl, ⟨_, _, rfl, ⟨_, rfl, an_lo _, an_hi _⟩, ⟨_, _, rfl, ⟨_, rfl, an_lo _, an_hi _⟩, ⟨_, _, rfl, ⟨_, rfl, by decide, by decide⟩, rfl⟩⟩⟩⟩ rfl rfl (Or.inl rfl) (by omega) (by omega) (fun N2ft I2ft μ2ft H2ft locs2ft ce2ft sl2ft hP2ft hB2ft hM2ft hc2ft hs2ft => ?_)
      obtain ⟨r2ft, -, hE2ft⟩ := hP2ft
      rw [show zbd 215 = (0, 0) from rfl] at hc2ft hs2ft
      replace hc2ft : ce2ft = ce1f + 0 := hc2ft
      replace hs2ft : sl2ft = sl1f + 0 := hs2ft
      refine lv_goto hx hb dW_1098 (tgt := 1249) (by decide) ?_
      exact kk N2ft I2ft μ2ft H2ft locs2ft ce2ft sl2ft hB2ft (lwR_2 xm_105 (by decide +kernel) xm_188 (by decide +kernel) hE1f hE2ft hR) hM2ft (by omega) (by omega)
    · refine lv_iconst hx hb dW_1089 (v := 1) (by decide) ?_
      refine lv_goto hx hb dW_1090 (tgt := 1094) (by decide) ?_
      refine lw_tab (us := [z1071f, z1076f, 1]) (a := 75) C hM1f hL.1 hB1f dW_1094 dW_1097 zl_215 rfl wd_1874 wd_1875 wd_1876 rfl (by decide) zh_215 (by decide +kernel) (by decide +kernel) (by decide) ⟨_, _, rfl, rfl, ⟨_, _, rfl, ⟨_, rfl, an_lo _, an_hi _⟩, ⟨_, _, rfl, ⟨_, rfl, an_lo _, an_hi _⟩, ⟨_, _, rfl, ⟨_, rfl, by decide, by decide⟩, rfl⟩⟩⟩⟩ rfl rfl (Or.inl rfl) (by omega) (by omega) (fun N2ff I2ff μ2ff H2ff locs2ff ce2ff sl2ff hP2ff hB2ff hM2ff hc2ff hs2ff => ?_)
      obtain ⟨r2ff, -, hE2ff⟩ := hP2ff
      rw [show zbd 215 = (0, 0) from rfl] at hc2ff hs2ff
      replace hc2ff : ce2ff = ce1f + 0 := hc2ff
      replace hs2ff : sl2ff = sl1f + 0 := hs2ff
      refine lv_goto hx hb dW_1098 (tgt := 1249) (by decide) ?_
      exact kk N2ff I2ff μ2ff H2ff locs2ff ce2ff sl2ff hB2ff (lwR_2 xm_105 (by decide +kernel) xm_188 (by decide +kernel) hE1f hE2ff hR) hM2ff (by omega) (by omega)
set_option maxRecDepth 10000 in
set_option maxHeartbeats 4000000 in
theorem lc_29 {p : Program} {l : Launch} {e : Env} {s : State} {m : MethodId} {below : List Frame} {meth : Method} {c : Code} {b sl : Nat} {xs : Nat → Int32} {D : va_G} {tys : List (ClassId × FieldType)} {Q : State → Prop} {N cells slots : Nat} {I : zI} {μ : xM} {ls : Array Slot} {H : Heap} {locs : List Loc} {i : Int32} (C : lCx p s m meth c b sl xs D tys) (h0 : 0 ≤ i.toInt) (h6 : i.toInt + 6 ≤ (sl : Int)) (hM : zMem zG0 D tys s.heap.size N 0 s I μ H locs) (hL : lv_has ls 4 (lLv s.heap.size b i)) (hB : lwB I) (hR : lwR μ) (hce : cells + 12 ≤ 600000) (hsl : slots + 792 ≤ 7302250) (kk : ∀ (N' : Nat) (I' : zI) (μ' : xM) (H' : Heap) (locs' : List Loc) (cells' slots' : Nat), lwB I' → lwR μ' → zMem zG0 D tys s.heap.size N' 0 s I' μ' H' locs' → cells' ≤ cells + 6 → slots' ≤ slots + 396 → W p l e room_1 s m #[Value.ref b] below meth c H' locs' cells' slots' Q (F0 m 1249 ls [])) : W p l e room_1 s m #[Value.ref b] below meth c H locs cells slots Q (F0 m 1101 ls []) := by
  obtain ⟨hx, hb, -⟩ := id C.1
  refine lv_aload_n hx hb dW_1101 rfl (lv_at hL 1 rfl) ?_
  refine lw_tab (us := []) (a := 0) C hM hL.1 hB dW_1102 dW_1105 zl_87 rfl wd_1205 wd_1206 wd_1207 rfl (by decide) zh_87 (by decide +kernel) (by decide +kernel) (by decide) ⟨_, _, rfl, rfl, rfl⟩ rfl rfl (Or.inl rfl) (by omega) (by omega) (fun N1 I1 μ1 H1 locs1 ce1 sl1 hP1 hB1 hM1 hc1 hs1 => ?_)
  obtain ⟨r1, -, hE1⟩ := hP1
  rw [show zbd 87 = (0, 0) from rfl] at hc1 hs1
  replace hc1 : ce1 = cells + 0 := hc1
  replace hs1 : sl1 = slots + 0 := hs1
  refine lv_aload_n hx hb dW_1106 rfl (lv_at hL 2 rfl) ?_
  refine lw_tab (us := []) (a := 75) C hM1 hL.1 hB1 dW_1107 dW_1110 zl_144 rfl wd_1878 wd_1879 wd_1880 rfl (by decide) zh_144 (by decide +kernel) (by decide +kernel) (by decide) ⟨_, _, rfl, rfl, rfl⟩ rfl rfl (Or.inl rfl) (by omega) (by omega) (fun N2 I2 μ2 H2 locs2 ce2 sl2 hP2 hB2 hM2 hc2 hs2 => ?_)
  obtain ⟨r2, -, hE2⟩ := hP2
  rw [show zbd 144 = (0, 0) from rfl] at hc2 hs2
  replace hc2 : ce2 = ce1 + 0 := hc2
  replace hs2 : sl2 = sl1 + 0 := hs2
  refine lv_goto hx hb dW_1111 (tgt := 1249) (by decide) ?_
  exact kk N2 I2 μ2 H2 locs2 ce2 sl2 hB2 (lwR_2 xm_82 (by decide +kernel) xm_137 (by decide +kernel) hE1 hE2 hR) hM2 (by omega) (by omega)
set_option maxRecDepth 10000 in
set_option maxHeartbeats 4000000 in
theorem lc_30 {p : Program} {l : Launch} {e : Env} {s : State} {m : MethodId} {below : List Frame} {meth : Method} {c : Code} {b sl : Nat} {xs : Nat → Int32} {D : va_G} {tys : List (ClassId × FieldType)} {Q : State → Prop} {N cells slots : Nat} {I : zI} {μ : xM} {ls : Array Slot} {H : Heap} {locs : List Loc} {i : Int32} (C : lCx p s m meth c b sl xs D tys) (h0 : 0 ≤ i.toInt) (h6 : i.toInt + 6 ≤ (sl : Int)) (hM : zMem zG0 D tys s.heap.size N 0 s I μ H locs) (hL : lv_has ls 4 (lLv s.heap.size b i)) (hB : lwB I) (hR : lwR μ) (hce : cells + 12 ≤ 600000) (hsl : slots + 792 ≤ 7302250) (kk : ∀ (N' : Nat) (I' : zI) (μ' : xM) (H' : Heap) (locs' : List Loc) (cells' slots' : Nat), lwB I' → lwR μ' → zMem zG0 D tys s.heap.size N' 0 s I' μ' H' locs' → cells' ≤ cells + 6 → slots' ≤ slots + 396 → W p l e room_1 s m #[Value.ref b] below meth c H' locs' cells' slots' Q (F0 m 1249 ls [])) : W p l e room_1 s m #[Value.ref b] below meth c H locs cells slots Q (F0 m 1114 ls []) := by
  obtain ⟨hx, hb, -⟩ := id C.1
  refine lv_aload_n hx hb dW_1114 rfl (lv_at hL 1 rfl) ?_
  refine lw_ld (kv := 1) C hM hL dW_1115 dW_1116 dW_1117 (by decide) dW_1118 dW_1119 h0 h6 (by decide) (by decide) (fun z1115 => ?_)
  refine lw_ld (kv := 2) C hM hL dW_1120 dW_1121 dW_1122 (by decide) dW_1123 dW_1124 h0 h6 (by decide) (by decide) (fun z1120 => ?_)
  refine lw_tab (us := [z1115, z1120]) (a := 0) C hM hL.1 hB dW_1125 dW_1128 zl_119 rfl wd_1209 wd_1210 wd_1211 rfl (by decide) zh_119 (by decide +kernel) (by decide +kernel) (by decide) ⟨_, _, rfl, rfl, ⟨_, _, rfl, ⟨_, rfl, an_lo _, an_hi _⟩, ⟨_, _, rfl, ⟨_, rfl, an_lo _, an_hi _⟩, rfl⟩⟩⟩ rfl rfl (Or.inl rfl) (by omega) (by omega) (fun N1 I1 μ1 H1 locs1 ce1 sl1 hP1 hB1 hM1 hc1 hs1 => ?_)
  obtain ⟨r1, -, hE1⟩ := hP1
  rw [show zbd 119 = (0, 0) from rfl] at hc1 hs1
  replace hc1 : ce1 = cells + 0 := hc1
  replace hs1 : sl1 = slots + 0 := hs1
  refine lv_aload_n hx hb dW_1129 rfl (lv_at hL 2 rfl) ?_
  refine lw_ld (kv := 1) C hM1 hL dW_1130 dW_1131 dW_1132 (by decide) dW_1133 dW_1134 h0 h6 (by decide) (by decide) (fun z1130 => ?_)
  refine lw_ld (kv := 2) C hM1 hL dW_1135 dW_1136 dW_1137 (by decide) dW_1138 dW_1139 h0 h6 (by decide) (by decide) (fun z1135 => ?_)
  refine lw_tab (us := [z1130, z1135]) (a := 75) C hM1 hL.1 hB1 dW_1140 dW_1143 zl_227 rfl wd_1882 wd_1883 wd_1884 rfl (by decide) zh_227 (by decide +kernel) (by decide +kernel) (by decide) ⟨_, _, rfl, rfl, ⟨_, _, rfl, ⟨_, rfl, an_lo _, an_hi _⟩, ⟨_, _, rfl, ⟨_, rfl, an_lo _, an_hi _⟩, rfl⟩⟩⟩ rfl rfl (Or.inl rfl) (by omega) (by omega) (fun N2 I2 μ2 H2 locs2 ce2 sl2 hP2 hB2 hM2 hc2 hs2 => ?_)
  obtain ⟨r2, -, hE2⟩ := hP2
  rw [show zbd 227 = (0, 0) from rfl] at hc2 hs2
  replace hc2 : ce2 = ce1 + 0 := hc2
  replace hs2 : sl2 = sl1 + 0 := hs2
  refine lv_goto hx hb dW_1144 (tgt := 1249) (by decide) ?_
  exact kk N2 I2 μ2 H2 locs2 ce2 sl2 hB2 (lwR_2 xm_112 (by decide +kernel) xm_200 (by decide +kernel) hE1 hE2 hR) hM2 (by omega) (by omega)
set_option maxRecDepth 10000 in
set_option maxHeartbeats 4000000 in
theorem lc_31 {p : Program} {l : Launch} {e : Env} {s : State} {m : MethodId} {below : List Frame} {meth : Method} {c : Code} {b sl : Nat} {xs : Nat → Int32} {D : va_G} {tys : List (ClassId × FieldType)} {Q : State → Prop} {N cells slots : Nat} {I : zI} {μ : xM} {ls : Array Slot} {H : Heap} {locs : List Loc} {i : Int32} (C : lCx p s m meth c b sl xs D tys) (h0 : 0 ≤ i.toInt) (h6 : i.toInt + 6 ≤ (sl : Int)) (hM : zMem zG0 D tys s.heap.size N 0 s I μ H locs) (hL : lv_has ls 4 (lLv s.heap.size b i)) (hB : lwB I) (hR : lwR μ) (hce : cells + 12 ≤ 600000) (hsl : slots + 792 ≤ 7302250) (kk : ∀ (N' : Nat) (I' : zI) (μ' : xM) (H' : Heap) (locs' : List Loc) (cells' slots' : Nat), lwB I' → lwR μ' → zMem zG0 D tys s.heap.size N' 0 s I' μ' H' locs' → cells' ≤ cells + 6 → slots' ≤ slots + 396 → W p l e room_1 s m #[Value.ref b] below meth c H' locs' cells' slots' Q (F0 m 1249 ls [])) : W p l e room_1 s m #[Value.ref b] below meth c H locs cells slots Q (F0 m 1147 ls []) := by
  obtain ⟨hx, hb, -⟩ := id C.1
  refine lv_aload_n hx hb dW_1147 rfl (lv_at hL 1 rfl) ?_
  refine lw_ld (kv := 1) C hM hL dW_1148 dW_1149 dW_1150 (by decide) dW_1151 dW_1152 h0 h6 (by decide) (by decide) (fun z1148 => ?_)
  refine lw_ld (kv := 2) C hM hL dW_1153 dW_1154 dW_1155 (by decide) dW_1156 dW_1157 h0 h6 (by decide) (by decide) (fun z1153 => ?_)
  refine lw_tab (us := [z1148, z1153]) (a := 0) C hM hL.1 hB dW_1158 dW_1161 zl_76 rfl wd_1223 wd_1224 wd_1225 rfl (by decide) zh_76 (by decide +kernel) (by decide +kernel) (by decide) ⟨_, _, rfl, rfl, ⟨_, _, rfl, ⟨_, rfl, an_lo _, an_hi _⟩, ⟨_, _, rfl, ⟨_, rfl, an_lo _, an_hi _⟩, rfl⟩⟩⟩ rfl rfl (Or.inl rfl) (by omega) (by omega) (fun N1 I1 μ1 H1 locs1 ce1 sl1 hP1 hB1 hM1 hc1 hs1 => ?_)
  obtain ⟨r1, -, hE1⟩ := hP1
  rw [show zbd 76 = (0, 0) from rfl] at hc1 hs1
  replace hc1 : ce1 = cells + 0 := hc1
  replace hs1 : sl1 = slots + 0 := hs1
  refine lv_aload_n hx hb dW_1162 rfl (lv_at hL 2 rfl) ?_
  refine lw_ld (kv := 1) C hM1 hL dW_1163 dW_1164 dW_1165 (by decide) dW_1166 dW_1167 h0 h6 (by decide) (by decide) (fun z1163 => ?_)
  refine lw_ld (kv := 2) C hM1 hL dW_1168 dW_1169 dW_1170 (by decide) dW_1171 dW_1172 h0 h6 (by decide) (by decide) (fun z1168 => ?_)
  refine lw_tab (us := [z1163, z1168]) (a := 75) C hM1 hL.1 hB1 dW_1173 dW_1176 zl_125 rfl wd_1893 wd_1894 wd_1895 rfl (by decide) zh_125 (by decide +kernel) (by decide +kernel) (by decide) ⟨_, _, rfl, rfl, ⟨_, _, rfl, ⟨_, rfl, an_lo _, an_hi _⟩, ⟨_, _, rfl, ⟨_, rfl, an_lo _, an_hi _⟩, rfl⟩⟩⟩ rfl rfl (Or.inl rfl) (by omega) (by omega) (fun N2 I2 μ2 H2 locs2 ce2 sl2 hP2 hB2 hM2 hc2 hs2 => ?_)
  obtain ⟨r2, -, hE2⟩ := hP2
  rw [show zbd 125 = (0, 0) from rfl] at hc2 hs2
  replace hc2 : ce2 = ce1 + 0 := hc2
  replace hs2 : sl2 = sl1 + 0 := hs2
  refine lv_goto hx hb dW_1177 (tgt := 1249) (by decide) ?_
  exact kk N2 I2 μ2 H2 locs2 ce2 sl2 hB2 (lwR_2 xm_71 (by decide +kernel) xm_118 (by decide +kernel) hE1 hE2 hR) hM2 (by omega) (by omega)
set_option maxRecDepth 10000 in
set_option maxHeartbeats 4000000 in
theorem lc_32 {p : Program} {l : Launch} {e : Env} {s : State} {m : MethodId} {below : List Frame} {meth : Method} {c : Code} {b sl : Nat} {xs : Nat → Int32} {D : va_G} {tys : List (ClassId × FieldType)} {Q : State → Prop} {N cells slots : Nat} {I : zI} {μ : xM} {ls : Array Slot} {H : Heap} {locs : List Loc} {i : Int32} (C : lCx p s m meth c b sl xs D tys) (h0 : 0 ≤ i.toInt) (h6 : i.toInt + 6 ≤ (sl : Int)) (hM : zMem zG0 D tys s.heap.size N 0 s I μ H locs) (hL : lv_has ls 4 (lLv s.heap.size b i)) (hB : lwB I) (hR : lwR μ) (hce : cells + 12 ≤ 600000) (hsl : slots + 792 ≤ 7302250) (kk : ∀ (N' : Nat) (I' : zI) (μ' : xM) (H' : Heap) (locs' : List Loc) (cells' slots' : Nat), lwB I' → lwR μ' → zMem zG0 D tys s.heap.size N' 0 s I' μ' H' locs' → cells' ≤ cells + 6 → slots' ≤ slots + 396 → W p l e room_1 s m #[Value.ref b] below meth c H' locs' cells' slots' Q (F0 m 1249 ls [])) : W p l e room_1 s m #[Value.ref b] below meth c H locs cells slots Q (F0 m 1180 ls []) := by
  obtain ⟨hx, hb, -⟩ := id C.1
  obtain ⟨z1, hz1⟩ : ∃ z, z = xs (i + 1).toNatClampNeg := ⟨_, rfl⟩
  obtain ⟨z2, hz2⟩ : ∃ z, z = xs (i + 2).toNatClampNeg := ⟨_, rfl⟩
  obtain ⟨z3, hz3⟩ : ∃ z, z = xs (i + 3).toNatClampNeg := ⟨_, rfl⟩
  obtain ⟨z4, hz4⟩ : ∃ z, z = xs (i + 4).toNatClampNeg := ⟨_, rfl⟩
  refine lv_aload_n hx hb dW_1180 rfl (lv_at hL 1 rfl) ?_
  refine lw_ldx (kv := 1) hz1 C hM hL dW_1181 dW_1182 dW_1183 (by decide) dW_1184 dW_1185 h0 h6 (by decide) (by decide) ?_
  refine lw_tab (us := [z1]) (a := 0) C hM hL.1 hB dW_1186 dW_1189 zl_91 rfl wd_1233 wd_1234 wd_1235 rfl (by decide) zh_91 (by decide +kernel) (by decide +kernel) (by decide) ⟨_, _, rfl, rfl, ⟨_, _, rfl, ⟨_, rfl, an_lo _, an_hi _⟩, rfl⟩⟩ rfl rfl (Or.inr rfl) (by omega) (by omega) (fun N1 I1 μ1 H1 locs1 ce1 sl1 hP1 hB1 hM1 hc1 hs1 => ?_)
  obtain ⟨r1, -, hE1⟩ := hP1
  rw [show zbd 91 = (6, 396) from rfl] at hc1 hs1
  replace hc1 : ce1 = cells + 6 := hc1
  replace hs1 : sl1 = slots + 396 := hs1
  refine lv_aload_n hx hb dW_1190 rfl (lv_at hL 2 rfl) ?_
  refine lw_ldx (kv := 1) hz1 C hM1 hL dW_1191 dW_1192 dW_1193 (by decide) dW_1194 dW_1195 h0 h6 (by decide) (by decide) ?_
  refine lw_tab (us := [z1]) (a := 75) C hM1 hL.1 hB1 dW_1196 dW_1199 zl_153 rfl wd_1897 wd_1898 wd_1899 rfl (by decide) zh_153 (by decide +kernel) (by decide +kernel) (by decide) ⟨_, _, rfl, rfl, ⟨_, _, rfl, ⟨_, rfl, an_lo _, an_hi _⟩, rfl⟩⟩ rfl rfl (Or.inl rfl) (by omega) (by omega) (fun N2 I2 μ2 H2 locs2 ce2 sl2 hP2 hB2 hM2 hc2 hs2 => ?_)
  obtain ⟨r2, -, hE2⟩ := hP2
  rw [show zbd 153 = (0, 0) from rfl] at hc2 hs2
  replace hc2 : ce2 = ce1 + 0 := hc2
  replace hs2 : sl2 = sl1 + 0 := hs2
  refine lv_goto hx hb dW_1200 (tgt := 1249) (by decide) ?_
  exact kk N2 I2 μ2 H2 locs2 ce2 sl2 hB2 (lwR_hold hE1 hE2 hR).2 hM2 (by omega) (by omega)
set_option maxRecDepth 10000 in
set_option maxHeartbeats 4000000 in
theorem lc_33 {p : Program} {l : Launch} {e : Env} {s : State} {m : MethodId} {below : List Frame} {meth : Method} {c : Code} {b sl : Nat} {xs : Nat → Int32} {D : va_G} {tys : List (ClassId × FieldType)} {Q : State → Prop} {N cells slots : Nat} {I : zI} {μ : xM} {ls : Array Slot} {H : Heap} {locs : List Loc} {i : Int32} (C : lCx p s m meth c b sl xs D tys) (h0 : 0 ≤ i.toInt) (h6 : i.toInt + 6 ≤ (sl : Int)) (hM : zMem zG0 D tys s.heap.size N 0 s I μ H locs) (hL : lv_has ls 4 (lLv s.heap.size b i)) (hB : lwB I) (hR : lwR μ) (hce : cells + 12 ≤ 600000) (hsl : slots + 792 ≤ 7302250) (kk : ∀ (N' : Nat) (I' : zI) (μ' : xM) (H' : Heap) (locs' : List Loc) (cells' slots' : Nat), lwB I' → lwR μ' → zMem zG0 D tys s.heap.size N' 0 s I' μ' H' locs' → cells' ≤ cells + 6 → slots' ≤ slots + 396 → W p l e room_1 s m #[Value.ref b] below meth c H' locs' cells' slots' Q (F0 m 1249 ls [])) : W p l e room_1 s m #[Value.ref b] below meth c H locs cells slots Q (F0 m 1203 ls []) := by
  obtain ⟨hx, hb, -⟩ := id C.1
  obtain ⟨z1, hz1⟩ : ∃ z, z = xs (i + 1).toNatClampNeg := ⟨_, rfl⟩
  obtain ⟨z2, hz2⟩ : ∃ z, z = xs (i + 2).toNatClampNeg := ⟨_, rfl⟩
  obtain ⟨z3, hz3⟩ : ∃ z, z = xs (i + 3).toNatClampNeg := ⟨_, rfl⟩
  obtain ⟨z4, hz4⟩ : ∃ z, z = xs (i + 4).toNatClampNeg := ⟨_, rfl⟩
  refine lv_aload_n hx hb dW_1203 rfl (lv_at hL 1 rfl) ?_
  refine lw_ldx (kv := 1) hz1 C hM hL dW_1204 dW_1205 dW_1206 (by decide) dW_1207 dW_1208 h0 h6 (by decide) (by decide) ?_
  refine lw_tab (us := [z1]) (a := 0) C hM hL.1 hB dW_1209 dW_1212 zl_104 rfl wd_1237 wd_1238 wd_1239 rfl (by decide) zh_104 (by decide +kernel) (by decide +kernel) (by decide) ⟨_, _, rfl, rfl, ⟨_, _, rfl, ⟨_, rfl, an_lo _, an_hi _⟩, rfl⟩⟩ rfl rfl (Or.inl rfl) (by omega) (by omega) (fun N1 I1 μ1 H1 locs1 ce1 sl1 hP1 hB1 hM1 hc1 hs1 => ?_)
  obtain ⟨r1, -, hE1⟩ := hP1
  rw [show zbd 104 = (0, 0) from rfl] at hc1 hs1
  replace hc1 : ce1 = cells + 0 := hc1
  replace hs1 : sl1 = slots + 0 := hs1
  refine lv_aload_n hx hb dW_1213 rfl (lv_at hL 2 rfl) ?_
  refine lw_ldx (kv := 1) hz1 C hM1 hL dW_1214 dW_1215 dW_1216 (by decide) dW_1217 dW_1218 h0 h6 (by decide) (by decide) ?_
  refine lw_tab (us := [z1]) (a := 75) C hM1 hL.1 hB1 dW_1219 dW_1222 zl_209 rfl wd_1901 wd_1902 wd_1903 rfl (by decide) zh_209 (by decide +kernel) (by decide +kernel) (by decide) ⟨_, _, rfl, rfl, ⟨_, _, rfl, ⟨_, rfl, an_lo _, an_hi _⟩, rfl⟩⟩ rfl rfl (Or.inl rfl) (by omega) (by omega) (fun N2 I2 μ2 H2 locs2 ce2 sl2 hP2 hB2 hM2 hc2 hs2 => ?_)
  obtain ⟨r2, -, hE2⟩ := hP2
  rw [show zbd 209 = (0, 0) from rfl] at hc2 hs2
  replace hc2 : ce2 = ce1 + 0 := hc2
  replace hs2 : sl2 = sl1 + 0 := hs2
  refine lv_goto hx hb dW_1223 (tgt := 1249) (by decide) ?_
  exact kk N2 I2 μ2 H2 locs2 ce2 sl2 hB2 (lwR_restore hE1 hE2 hR).2 hM2 (by omega) (by omega)
set_option maxRecDepth 10000 in
set_option maxHeartbeats 4000000 in
theorem lc_34 {p : Program} {l : Launch} {e : Env} {s : State} {m : MethodId} {below : List Frame} {meth : Method} {c : Code} {b sl : Nat} {xs : Nat → Int32} {D : va_G} {tys : List (ClassId × FieldType)} {Q : State → Prop} {N cells slots : Nat} {I : zI} {μ : xM} {ls : Array Slot} {H : Heap} {locs : List Loc} {i : Int32} (C : lCx p s m meth c b sl xs D tys) (h0 : 0 ≤ i.toInt) (h6 : i.toInt + 6 ≤ (sl : Int)) (hM : zMem zG0 D tys s.heap.size N 0 s I μ H locs) (hL : lv_has ls 4 (lLv s.heap.size b i)) (hB : lwB I) (hR : lwR μ) (hce : cells + 12 ≤ 600000) (hsl : slots + 792 ≤ 7302250) (kk : ∀ (N' : Nat) (I' : zI) (μ' : xM) (H' : Heap) (locs' : List Loc) (cells' slots' : Nat), lwB I' → lwR μ' → zMem zG0 D tys s.heap.size N' 0 s I' μ' H' locs' → cells' ≤ cells + 6 → slots' ≤ slots + 396 → W p l e room_1 s m #[Value.ref b] below meth c H' locs' cells' slots' Q (F0 m 1249 ls [])) : W p l e room_1 s m #[Value.ref b] below meth c H locs cells slots Q (F0 m 1226 ls []) := by
  obtain ⟨hx, hb, -⟩ := id C.1
  refine lv_aload_n hx hb dW_1226 rfl (lv_at hL 1 rfl) ?_
  refine lw_ld (kv := 1) C hM hL dW_1227 dW_1228 dW_1229 (by decide) dW_1230 dW_1231 h0 h6 (by decide) (by decide) (fun z1227 => ?_)
  refine lw_tab (us := [z1227]) (a := 0) C hM hL.1 hB dW_1232 dW_1235 zl_84 rfl wd_1241 wd_1242 wd_1243 rfl (by decide) zh_84 (by decide +kernel) (by decide +kernel) (by decide) ⟨_, _, rfl, rfl, ⟨_, _, rfl, ⟨_, rfl, an_lo _, an_hi _⟩, rfl⟩⟩ rfl rfl (Or.inl rfl) (by omega) (by omega) (fun N1 I1 μ1 H1 locs1 ce1 sl1 hP1 hB1 hM1 hc1 hs1 => ?_)
  obtain ⟨r1, -, hE1⟩ := hP1
  rw [show zbd 84 = (0, 0) from rfl] at hc1 hs1
  replace hc1 : ce1 = cells + 0 := hc1
  replace hs1 : sl1 = slots + 0 := hs1
  refine lv_aload_n hx hb dW_1236 rfl (lv_at hL 2 rfl) ?_
  refine lw_ld (kv := 1) C hM1 hL dW_1237 dW_1238 dW_1239 (by decide) dW_1240 dW_1241 h0 h6 (by decide) (by decide) (fun z1237 => ?_)
  refine lw_tab (us := [z1237]) (a := 75) C hM1 hL.1 hB1 dW_1242 dW_1245 zl_137 rfl wd_1905 wd_1906 wd_1907 rfl (by decide) zh_137 (by decide +kernel) (by decide +kernel) (by decide) ⟨_, _, rfl, rfl, ⟨_, _, rfl, ⟨_, rfl, an_lo _, an_hi _⟩, rfl⟩⟩ rfl rfl (Or.inl rfl) (by omega) (by omega) (fun N2 I2 μ2 H2 locs2 ce2 sl2 hP2 hB2 hM2 hc2 hs2 => ?_)
  obtain ⟨r2, -, hE2⟩ := hP2
  rw [show zbd 137 = (0, 0) from rfl] at hc2 hs2
  replace hc2 : ce2 = ce1 + 0 := hc2
  replace hs2 : sl2 = sl1 + 0 := hs2
  refine lv_goto hx hb dW_1246 (tgt := 1249) (by decide) ?_
  exact kk N2 I2 μ2 H2 locs2 ce2 sl2 hB2 (lwR_2 xm_79 (by decide +kernel) xm_130 (by decide +kernel) hE1 hE2 hR) hM2 (by omega) (by omega)
