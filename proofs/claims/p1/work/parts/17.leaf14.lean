set_option maxRecDepth 100000 in
set_option maxHeartbeats 4000000 in
theorem lf_26_58 : xleaf 6 [(0, 4294967295), (2147483705, 2147483705), (0, 4294967295), (0, 4294967295), (0, 4294967295), (0, 4294967295)] 966 = true := by decide +kernel
set_option maxRecDepth 100000 in
set_option maxHeartbeats 4000000 in
theorem lf_26_59 : xleaf 6 [(0, 4294967295), (2147483706, 2147483706), (0, 4294967295), (0, 4294967295), (0, 4294967295), (0, 4294967295)] 966 = true := by decide +kernel
set_option maxRecDepth 100000 in
set_option maxHeartbeats 4000000 in
theorem lf_26_60 : xleaf 6 [(0, 4294967295), (2147483707, 2147483707), (0, 4294967295), (0, 4294967295), (0, 4294967295), (0, 4294967295)] 966 = true := by decide +kernel
set_option maxRecDepth 100000 in
set_option maxHeartbeats 4000000 in
theorem lf_26_61 : xleaf 6 [(0, 4294967295), (2147483708, 2147483708), (0, 4294967295), (0, 4294967295), (0, 4294967295), (0, 4294967295)] 966 = true := by decide +kernel
set_option maxRecDepth 100000 in
set_option maxHeartbeats 4000000 in
theorem lf_26_62 : xleaf 6 [(0, 4294967295), (2147483709, 4294967295), (0, 4294967295), (0, 4294967295), (0, 4294967295), (0, 4294967295)] 966 = true := by decide +kernel
set_option maxRecDepth 100000 in
set_option maxHeartbeats 4000000 in
theorem lf_27_0 : xleaf 6 [(0, 4294967295), (0, 2147483647), (0, 4294967295), (0, 4294967295), (0, 4294967295), (0, 4294967295)] 989 = true := by decide +kernel
set_option maxRecDepth 100000 in
set_option maxHeartbeats 4000000 in
theorem lf_27_1 : xleaf 6 [(0, 4294967295), (2147483648, 4294967295), (0, 4294967295), (0, 4294967295), (0, 4294967295), (0, 4294967295)] 989 = true := by decide +kernel
set_option maxRecDepth 100000 in
set_option maxHeartbeats 4000000 in
theorem lf_28_0 : xleaf 6 [(0, 4294967295), (0, 2147483647), (0, 4294967295), (0, 2147483647), (0, 4294967295), (0, 4294967295)] 1042 = true := by decide +kernel
set_option maxRecDepth 100000 in
set_option maxHeartbeats 4000000 in
theorem lf_28_1 : xleaf 6 [(0, 4294967295), (2147483648, 2147483655), (0, 2147483647), (0, 2147483647), (0, 4294967295), (0, 4294967295)] 1042 = true := by decide +kernel
set_option maxRecDepth 100000 in
set_option maxHeartbeats 4000000 in
theorem lf_28_2 : xleaf 6 [(0, 4294967295), (2147483648, 2147483655), (2147483648, 2147484647), (0, 2147483647), (0, 4294967295), (0, 4294967295)] 1042 = true := by decide +kernel
set_option maxRecDepth 100000 in
set_option maxHeartbeats 4000000 in
theorem lf_28_3 : xleaf 6 [(0, 4294967295), (2147483648, 2147483655), (2147484648, 4294967295), (0, 2147483647), (0, 4294967295), (0, 4294967295)] 1042 = true := by decide +kernel
set_option maxRecDepth 100000 in
set_option maxHeartbeats 4000000 in
theorem lf_28_4 : xleaf 6 [(0, 4294967295), (2147483656, 4294967295), (0, 4294967295), (0, 2147483647), (0, 4294967295), (0, 4294967295)] 1042 = true := by decide +kernel
set_option maxRecDepth 100000 in
set_option maxHeartbeats 4000000 in
theorem lf_28_5 : xleaf 6 [(0, 4294967295), (0, 2147483647), (0, 4294967295), (2147483648, 2147483648), (0, 4294967295), (0, 4294967295)] 1042 = true := by decide +kernel
set_option maxRecDepth 100000 in
set_option maxHeartbeats 4000000 in
theorem lf_28_6 : xleaf 6 [(0, 4294967295), (2147483648, 2147483655), (0, 2147483647), (2147483648, 2147483648), (0, 4294967295), (0, 4294967295)] 1042 = true := by decide +kernel
set_option maxRecDepth 100000 in
set_option maxHeartbeats 4000000 in
theorem lf_28_7 : xleaf 6 [(0, 4294967295), (2147483648, 2147483655), (2147483648, 2147484647), (2147483648, 2147483648), (0, 4294967295), (0, 4294967295)] 1042 = true := by decide +kernel
set_option maxRecDepth 100000 in
set_option maxHeartbeats 4000000 in
theorem lf_28_8 : xleaf 6 [(0, 4294967295), (2147483648, 2147483655), (2147484648, 4294967295), (2147483648, 2147483648), (0, 4294967295), (0, 4294967295)] 1042 = true := by decide +kernel
set_option maxRecDepth 100000 in
set_option maxHeartbeats 4000000 in
theorem lf_28_9 : xleaf 6 [(0, 4294967295), (2147483656, 4294967295), (0, 4294967295), (2147483648, 2147483648), (0, 4294967295), (0, 4294967295)] 1042 = true := by decide +kernel
set_option maxRecDepth 100000 in
set_option maxHeartbeats 4000000 in
theorem lf_28_10 : xleaf 6 [(0, 4294967295), (0, 2147483647), (0, 4294967295), (2147483649, 4294967295), (0, 4294967295), (0, 4294967295)] 1042 = true := by decide +kernel
set_option maxRecDepth 100000 in
set_option maxHeartbeats 4000000 in
theorem lf_28_11 : xleaf 6 [(0, 4294967295), (2147483648, 2147483655), (0, 2147483647), (2147483649, 4294967295), (0, 4294967295), (0, 4294967295)] 1042 = true := by decide +kernel
set_option maxRecDepth 100000 in
set_option maxHeartbeats 4000000 in
theorem lf_28_12 : xleaf 6 [(0, 4294967295), (2147483648, 2147483655), (2147483648, 2147484647), (2147483649, 4294967295), (0, 4294967295), (0, 4294967295)] 1042 = true := by decide +kernel
set_option maxRecDepth 100000 in
set_option maxHeartbeats 4000000 in
theorem lf_28_13 : xleaf 6 [(0, 4294967295), (2147483648, 2147483655), (2147484648, 4294967295), (2147483649, 4294967295), (0, 4294967295), (0, 4294967295)] 1042 = true := by decide +kernel
set_option maxRecDepth 100000 in
set_option maxHeartbeats 4000000 in
theorem lf_28_14 : xleaf 6 [(0, 4294967295), (2147483656, 4294967295), (0, 4294967295), (2147483649, 4294967295), (0, 4294967295), (0, 4294967295)] 1042 = true := by decide +kernel
set_option maxRecDepth 100000 in
set_option maxHeartbeats 4000000 in
theorem lf_29_0 : xleaf 6 [(0, 4294967295), (0, 4294967295), (0, 4294967295), (0, 4294967295), (0, 4294967295), (0, 4294967295)] 1101 = true := by decide +kernel
set_option maxRecDepth 100000 in
set_option maxHeartbeats 4000000 in
theorem lf_30_0 : xleaf 6 [(0, 4294967295), (0, 2147483647), (0, 4294967295), (0, 4294967295), (0, 4294967295), (0, 4294967295)] 1114 = true := by decide +kernel
set_option maxRecDepth 100000 in
set_option maxHeartbeats 4000000 in
theorem lf_30_1 : xleaf 6 [(0, 4294967295), (2147483648, 2147483648), (0, 2147483647), (0, 4294967295), (0, 4294967295), (0, 4294967295)] 1114 = true := by decide +kernel
set_option maxRecDepth 100000 in
set_option maxHeartbeats 4000000 in
theorem lf_30_2 : xleaf 6 [(0, 4294967295), (2147483648, 2147483648), (2147483648, 2147483648), (0, 4294967295), (0, 4294967295), (0, 4294967295)] 1114 = true := by decide +kernel
set_option maxRecDepth 100000 in
set_option maxHeartbeats 4000000 in
theorem lf_30_3 : xleaf 6 [(0, 4294967295), (2147483648, 2147483648), (2147483649, 2147483649), (0, 4294967295), (0, 4294967295), (0, 4294967295)] 1114 = true := by decide +kernel
set_option maxRecDepth 100000 in
set_option maxHeartbeats 4000000 in
theorem lf_30_4 : xleaf 6 [(0, 4294967295), (2147483648, 2147483648), (2147483650, 4294967295), (0, 4294967295), (0, 4294967295), (0, 4294967295)] 1114 = true := by decide +kernel
set_option maxRecDepth 100000 in
set_option maxHeartbeats 4000000 in
theorem lf_30_5 : xleaf 6 [(0, 4294967295), (2147483649, 4294967295), (0, 4294967295), (0, 4294967295), (0, 4294967295), (0, 4294967295)] 1114 = true := by decide +kernel
set_option maxRecDepth 100000 in
set_option maxHeartbeats 4000000 in
theorem lf_31_0 : xleaf 6 [(0, 4294967295), (0, 2147483647), (0, 4294967295), (0, 4294967295), (0, 4294967295), (0, 4294967295)] 1147 = true := by decide +kernel
set_option maxRecDepth 100000 in
set_option maxHeartbeats 4000000 in
theorem lf_31_1 : xleaf 6 [(0, 4294967295), (2147483648, 2147483648), (0, 2147483647), (0, 4294967295), (0, 4294967295), (0, 4294967295)] 1147 = true := by decide +kernel
set_option maxRecDepth 100000 in
set_option maxHeartbeats 4000000 in
theorem lf_31_2 : xleaf 6 [(0, 4294967295), (2147483648, 2147483648), (2147483648, 2147484647), (0, 4294967295), (0, 4294967295), (0, 4294967295)] 1147 = true := by decide +kernel
set_option maxRecDepth 100000 in
set_option maxHeartbeats 4000000 in
theorem lf_31_3 : xleaf 6 [(0, 4294967295), (2147483648, 2147483648), (2147484648, 4294967295), (0, 4294967295), (0, 4294967295), (0, 4294967295)] 1147 = true := by decide +kernel
set_option maxRecDepth 100000 in
set_option maxHeartbeats 4000000 in
theorem lf_31_4 : xleaf 6 [(0, 4294967295), (2147483649, 4294967295), (0, 4294967295), (0, 4294967295), (0, 4294967295), (0, 4294967295)] 1147 = true := by decide +kernel
set_option maxRecDepth 100000 in
set_option maxHeartbeats 4000000 in
theorem lf_32_0 : xleaf 6 [(0, 4294967295), (0, 2147483647), (0, 4294967295), (0, 4294967295), (0, 4294967295), (0, 4294967295)] 1180 = true := by decide +kernel
set_option maxRecDepth 100000 in
set_option maxHeartbeats 4000000 in
theorem lf_32_1 : xleaf 6 [(0, 4294967295), (2147483648, 2147483648), (0, 4294967295), (0, 4294967295), (0, 4294967295), (0, 4294967295)] 1180 = true := by decide +kernel
set_option maxRecDepth 100000 in
set_option maxHeartbeats 4000000 in
theorem lf_32_2 : xleaf 6 [(0, 4294967295), (2147483649, 2147483649), (0, 4294967295), (0, 4294967295), (0, 4294967295), (0, 4294967295)] 1180 = true := by decide +kernel
set_option maxRecDepth 100000 in
set_option maxHeartbeats 4000000 in
theorem lf_32_3 : xleaf 6 [(0, 4294967295), (2147483650, 2147483650), (0, 4294967295), (0, 4294967295), (0, 4294967295), (0, 4294967295)] 1180 = true := by decide +kernel
set_option maxRecDepth 100000 in
set_option maxHeartbeats 4000000 in
theorem lf_32_4 : xleaf 6 [(0, 4294967295), (2147483651, 4294967295), (0, 4294967295), (0, 4294967295), (0, 4294967295), (0, 4294967295)] 1180 = true := by decide +kernel
set_option maxRecDepth 100000 in
set_option maxHeartbeats 4000000 in
theorem lf_33_0 : xleaf 6 [(0, 4294967295), (0, 2147483647), (0, 4294967295), (0, 4294967295), (0, 4294967295), (0, 4294967295)] 1203 = true := by decide +kernel
set_option maxRecDepth 100000 in
set_option maxHeartbeats 4000000 in
theorem lf_33_1 : xleaf 6 [(0, 4294967295), (2147483648, 2147483648), (0, 4294967295), (0, 4294967295), (0, 4294967295), (0, 4294967295)] 1203 = true := by decide +kernel
set_option maxRecDepth 100000 in
set_option maxHeartbeats 4000000 in
theorem lf_33_2 : xleaf 6 [(0, 4294967295), (2147483649, 2147483649), (0, 4294967295), (0, 4294967295), (0, 4294967295), (0, 4294967295)] 1203 = true := by decide +kernel
set_option maxRecDepth 100000 in
set_option maxHeartbeats 4000000 in
theorem lf_33_3 : xleaf 6 [(0, 4294967295), (2147483650, 2147483650), (0, 4294967295), (0, 4294967295), (0, 4294967295), (0, 4294967295)] 1203 = true := by decide +kernel
set_option maxRecDepth 100000 in
set_option maxHeartbeats 4000000 in
theorem lf_33_4 : xleaf 6 [(0, 4294967295), (2147483651, 4294967295), (0, 4294967295), (0, 4294967295), (0, 4294967295), (0, 4294967295)] 1203 = true := by decide +kernel
set_option maxRecDepth 100000 in
set_option maxHeartbeats 4000000 in
theorem lf_34_0 : xleaf 6 [(0, 4294967295), (0, 2147483647), (0, 4294967295), (0, 4294967295), (0, 4294967295), (0, 4294967295)] 1226 = true := by decide +kernel
set_option maxRecDepth 100000 in
set_option maxHeartbeats 4000000 in
theorem lf_34_1 : xleaf 6 [(0, 4294967295), (2147483648, 2147483648), (0, 4294967295), (0, 4294967295), (0, 4294967295), (0, 4294967295)] 1226 = true := by decide +kernel
set_option maxRecDepth 100000 in
set_option maxHeartbeats 4000000 in
theorem lf_34_2 : xleaf 6 [(0, 4294967295), (2147483649, 2147483649), (0, 4294967295), (0, 4294967295), (0, 4294967295), (0, 4294967295)] 1226 = true := by decide +kernel
set_option maxRecDepth 100000 in
set_option maxHeartbeats 4000000 in
theorem lf_34_3 : xleaf 6 [(0, 4294967295), (2147483650, 2147483650), (0, 4294967295), (0, 4294967295), (0, 4294967295), (0, 4294967295)] 1226 = true := by decide +kernel
set_option maxRecDepth 100000 in
set_option maxHeartbeats 4000000 in
theorem lf_34_4 : xleaf 6 [(0, 4294967295), (2147483651, 2147483651), (0, 4294967295), (0, 4294967295), (0, 4294967295), (0, 4294967295)] 1226 = true := by decide +kernel
set_option maxRecDepth 100000 in
set_option maxHeartbeats 4000000 in
theorem lf_34_5 : xleaf 6 [(0, 4294967295), (2147483652, 2147483652), (0, 4294967295), (0, 4294967295), (0, 4294967295), (0, 4294967295)] 1226 = true := by decide +kernel
set_option maxRecDepth 100000 in
set_option maxHeartbeats 4000000 in
theorem lf_34_6 : xleaf 6 [(0, 4294967295), (2147483653, 2147483653), (0, 4294967295), (0, 4294967295), (0, 4294967295), (0, 4294967295)] 1226 = true := by decide +kernel
set_option maxRecDepth 100000 in
set_option maxHeartbeats 4000000 in
theorem lf_34_7 : xleaf 6 [(0, 4294967295), (2147483654, 2147483654), (0, 4294967295), (0, 4294967295), (0, 4294967295), (0, 4294967295)] 1226 = true := by decide +kernel
set_option maxRecDepth 100000 in
set_option maxHeartbeats 4000000 in
theorem lf_34_8 : xleaf 6 [(0, 4294967295), (2147483655, 2147483655), (0, 4294967295), (0, 4294967295), (0, 4294967295), (0, 4294967295)] 1226 = true := by decide +kernel
set_option maxRecDepth 100000 in
set_option maxHeartbeats 4000000 in
theorem lf_34_9 : xleaf 6 [(0, 4294967295), (2147483656, 2147483656), (0, 4294967295), (0, 4294967295), (0, 4294967295), (0, 4294967295)] 1226 = true := by decide +kernel
