set_option maxRecDepth 100000 in
set_option maxHeartbeats 4000000 in
theorem lf_12_56 : xleaf 6 [(0, 4294967295), (2147483703, 2147483703), (0, 4294967295), (0, 4294967295), (0, 4294967295), (0, 4294967295)] 594 = true := by decide +kernel
set_option maxRecDepth 100000 in
set_option maxHeartbeats 4000000 in
theorem lf_12_57 : xleaf 6 [(0, 4294967295), (2147483704, 2147483704), (0, 4294967295), (0, 4294967295), (0, 4294967295), (0, 4294967295)] 594 = true := by decide +kernel
set_option maxRecDepth 100000 in
set_option maxHeartbeats 4000000 in
theorem lf_12_58 : xleaf 6 [(0, 4294967295), (2147483705, 2147483705), (0, 4294967295), (0, 4294967295), (0, 4294967295), (0, 4294967295)] 594 = true := by decide +kernel
set_option maxRecDepth 100000 in
set_option maxHeartbeats 4000000 in
theorem lf_12_59 : xleaf 6 [(0, 4294967295), (2147483706, 2147483706), (0, 4294967295), (0, 4294967295), (0, 4294967295), (0, 4294967295)] 594 = true := by decide +kernel
set_option maxRecDepth 100000 in
set_option maxHeartbeats 4000000 in
theorem lf_12_60 : xleaf 6 [(0, 4294967295), (2147483707, 2147483707), (0, 4294967295), (0, 4294967295), (0, 4294967295), (0, 4294967295)] 594 = true := by decide +kernel
