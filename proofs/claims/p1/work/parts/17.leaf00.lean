set_option maxRecDepth 100000 in
set_option maxHeartbeats 4000000 in
theorem lf_0_0 : xleaf 6 [(0, 4294967295), (0, 4294967295), (0, 4294967295), (0, 4294967295), (0, 4294967295), (0, 4294967295)] 188 = true := by decide +kernel
set_option maxRecDepth 100000 in
set_option maxHeartbeats 4000000 in
theorem lf_1_0 : xleaf 6 [(0, 4294967295), (0, 2147483647), (0, 4294967295), (0, 4294967295), (0, 4294967295), (0, 4294967295)] 251 = true := by decide +kernel
set_option maxRecDepth 100000 in
set_option maxHeartbeats 4000000 in
theorem lf_1_1 : xleaf 6 [(0, 4294967295), (2147483648, 2147483648), (0, 4294967295), (0, 4294967295), (0, 4294967295), (0, 4294967295)] 251 = true := by decide +kernel
set_option maxRecDepth 100000 in
set_option maxHeartbeats 4000000 in
theorem lf_1_2 : xleaf 6 [(0, 4294967295), (2147483649, 4294967295), (0, 4294967295), (0, 4294967295), (0, 4294967295), (0, 4294967295)] 251 = true := by decide +kernel
set_option maxRecDepth 100000 in
set_option maxHeartbeats 4000000 in
theorem lf_2_0 : xleaf 6 [(0, 4294967295), (0, 4294967295), (0, 4294967295), (0, 4294967295), (0, 4294967295), (0, 4294967295)] 274 = true := by decide +kernel
set_option maxRecDepth 100000 in
set_option maxHeartbeats 4000000 in
theorem lf_3_0 : xleaf 6 [(0, 4294967295), (0, 4294967295), (0, 4294967295), (0, 4294967295), (0, 4294967295), (0, 4294967295)] 287 = true := by decide +kernel
set_option maxRecDepth 100000 in
set_option maxHeartbeats 4000000 in
theorem lf_4_0 : xleaf 6 [(0, 4294967295), (0, 2147483647), (0, 4294967295), (0, 4294967295), (0, 4294967295), (0, 4294967295)] 300 = true := by decide +kernel
set_option maxRecDepth 100000 in
set_option maxHeartbeats 4000000 in
theorem lf_4_1 : xleaf 6 [(0, 4294967295), (2147483648, 4294967295), (0, 4294967295), (0, 4294967295), (0, 4294967295), (0, 4294967295)] 300 = true := by decide +kernel
set_option maxRecDepth 100000 in
set_option maxHeartbeats 4000000 in
theorem lf_5_0 : xleaf 6 [(0, 4294967295), (0, 2147483647), (0, 4294967295), (0, 4294967295), (0, 4294967295), (0, 4294967295)] 343 = true := by decide +kernel
set_option maxRecDepth 100000 in
set_option maxHeartbeats 4000000 in
theorem lf_5_1 : xleaf 6 [(0, 4294967295), (2147483648, 4294967295), (0, 4294967295), (0, 4294967295), (0, 4294967295), (0, 4294967295)] 343 = true := by decide +kernel
set_option maxRecDepth 100000 in
set_option maxHeartbeats 4000000 in
theorem lf_6_0 : xleaf 6 [(0, 4294967295), (0, 2147483647), (0, 4294967295), (0, 4294967295), (0, 4294967295), (0, 4294967295)] 376 = true := by decide +kernel
set_option maxRecDepth 100000 in
set_option maxHeartbeats 4000000 in
theorem lf_6_1 : xleaf 6 [(0, 4294967295), (2147483648, 4294967295), (0, 4294967295), (0, 4294967295), (0, 4294967295), (0, 4294967295)] 376 = true := by decide +kernel
set_option maxRecDepth 100000 in
set_option maxHeartbeats 4000000 in
theorem lf_7_0 : xleaf 6 [(0, 4294967295), (0, 2147483647), (0, 4294967295), (0, 4294967295), (0, 4294967295), (0, 4294967295)] 409 = true := by decide +kernel
set_option maxRecDepth 100000 in
set_option maxHeartbeats 4000000 in
theorem lf_7_1 : xleaf 6 [(0, 4294967295), (2147483648, 4294967295), (0, 4294967295), (0, 4294967295), (0, 4294967295), (0, 4294967295)] 409 = true := by decide +kernel
set_option maxRecDepth 100000 in
set_option maxHeartbeats 4000000 in
theorem lf_8_0 : xleaf 6 [(0, 4294967295), (0, 2147483647), (0, 4294967295), (0, 4294967295), (0, 4294967295), (0, 4294967295)] 462 = true := by decide +kernel
set_option maxRecDepth 100000 in
set_option maxHeartbeats 4000000 in
theorem lf_8_1 : xleaf 6 [(0, 4294967295), (2147483648, 4294967295), (0, 4294967295), (0, 4294967295), (0, 4294967295), (0, 4294967295)] 462 = true := by decide +kernel
set_option maxRecDepth 100000 in
set_option maxHeartbeats 4000000 in
theorem lf_9_0 : xleaf 6 [(0, 4294967295), (0, 2147483647), (0, 4294967295), (0, 4294967295), (0, 4294967295), (0, 4294967295)] 485 = true := by decide +kernel
set_option maxRecDepth 100000 in
set_option maxHeartbeats 4000000 in
theorem lf_9_1 : xleaf 6 [(0, 4294967295), (2147483648, 4294967295), (0, 4294967295), (0, 4294967295), (0, 4294967295), (0, 4294967295)] 485 = true := by decide +kernel
set_option maxRecDepth 100000 in
set_option maxHeartbeats 4000000 in
theorem lf_10_0 : xleaf 6 [(0, 4294967295), (0, 2147483647), (0, 4294967295), (0, 4294967295), (0, 4294967295), (0, 4294967295)] 508 = true := by decide +kernel
set_option maxRecDepth 100000 in
set_option maxHeartbeats 4000000 in
theorem lf_10_1 : xleaf 6 [(0, 4294967295), (2147483648, 4294967295), (0, 4294967295), (0, 4294967295), (0, 4294967295), (0, 4294967295)] 508 = true := by decide +kernel
set_option maxRecDepth 100000 in
set_option maxHeartbeats 4000000 in
theorem lf_11_0 : xleaf 6 [(0, 4294967295), (0, 2147483647), (0, 4294967295), (0, 4294967295), (0, 4294967295), (0, 4294967295)] 551 = true := by decide +kernel
set_option maxRecDepth 100000 in
set_option maxHeartbeats 4000000 in
theorem lf_11_1 : xleaf 6 [(0, 4294967295), (2147483648, 4294967295), (0, 4294967295), (0, 4294967295), (0, 4294967295), (0, 4294967295)] 551 = true := by decide +kernel
set_option maxRecDepth 100000 in
set_option maxHeartbeats 4000000 in
theorem lf_12_0 : xleaf 6 [(0, 4294967295), (0, 2147483647), (0, 4294967295), (0, 4294967295), (0, 4294967295), (0, 4294967295)] 594 = true := by decide +kernel
set_option maxRecDepth 100000 in
set_option maxHeartbeats 4000000 in
theorem lf_12_1 : xleaf 6 [(0, 4294967295), (2147483648, 2147483648), (0, 4294967295), (0, 4294967295), (0, 4294967295), (0, 4294967295)] 594 = true := by decide +kernel
set_option maxRecDepth 100000 in
set_option maxHeartbeats 4000000 in
theorem lf_12_2 : xleaf 6 [(0, 4294967295), (2147483649, 2147483649), (0, 4294967295), (0, 4294967295), (0, 4294967295), (0, 4294967295)] 594 = true := by decide +kernel
set_option maxRecDepth 100000 in
set_option maxHeartbeats 4000000 in
theorem lf_12_3 : xleaf 6 [(0, 4294967295), (2147483650, 2147483650), (0, 4294967295), (0, 4294967295), (0, 4294967295), (0, 4294967295)] 594 = true := by decide +kernel
set_option maxRecDepth 100000 in
set_option maxHeartbeats 4000000 in
theorem lf_12_4 : xleaf 6 [(0, 4294967295), (2147483651, 2147483651), (0, 4294967295), (0, 4294967295), (0, 4294967295), (0, 4294967295)] 594 = true := by decide +kernel
set_option maxRecDepth 100000 in
set_option maxHeartbeats 4000000 in
theorem lf_12_5 : xleaf 6 [(0, 4294967295), (2147483652, 2147483652), (0, 4294967295), (0, 4294967295), (0, 4294967295), (0, 4294967295)] 594 = true := by decide +kernel
set_option maxRecDepth 100000 in
set_option maxHeartbeats 4000000 in
theorem lf_12_6 : xleaf 6 [(0, 4294967295), (2147483653, 2147483653), (0, 4294967295), (0, 4294967295), (0, 4294967295), (0, 4294967295)] 594 = true := by decide +kernel
set_option maxRecDepth 100000 in
set_option maxHeartbeats 4000000 in
theorem lf_12_7 : xleaf 6 [(0, 4294967295), (2147483654, 2147483654), (0, 4294967295), (0, 4294967295), (0, 4294967295), (0, 4294967295)] 594 = true := by decide +kernel
set_option maxRecDepth 100000 in
set_option maxHeartbeats 4000000 in
theorem lf_12_8 : xleaf 6 [(0, 4294967295), (2147483655, 2147483655), (0, 4294967295), (0, 4294967295), (0, 4294967295), (0, 4294967295)] 594 = true := by decide +kernel
set_option maxRecDepth 100000 in
set_option maxHeartbeats 4000000 in
theorem lf_12_9 : xleaf 6 [(0, 4294967295), (2147483656, 2147483656), (0, 4294967295), (0, 4294967295), (0, 4294967295), (0, 4294967295)] 594 = true := by decide +kernel
