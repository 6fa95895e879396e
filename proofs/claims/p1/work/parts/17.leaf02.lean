set_option maxRecDepth 100000 in
set_option maxHeartbeats 4000000 in
theorem lf_12_18 : xleaf 6 [(0, 4294967295), (2147483665, 2147483665), (0, 4294967295), (0, 4294967295), (0, 4294967295), (0, 4294967295)] 594 = true := by decide +kernel
set_option maxRecDepth 100000 in
set_option maxHeartbeats 4000000 in
theorem lf_12_19 : xleaf 6 [(0, 4294967295), (2147483666, 2147483666), (0, 4294967295), (0, 4294967295), (0, 4294967295), (0, 4294967295)] 594 = true := by decide +kernel
set_option maxRecDepth 100000 in
set_option maxHeartbeats 4000000 in
theorem lf_12_20 : xleaf 6 [(0, 4294967295), (2147483667, 2147483667), (0, 4294967295), (0, 4294967295), (0, 4294967295), (0, 4294967295)] 594 = true := by decide +kernel
set_option maxRecDepth 100000 in
set_option maxHeartbeats 4000000 in
theorem lf_12_21 : xleaf 6 [(0, 4294967295), (2147483668, 2147483668), (0, 4294967295), (0, 4294967295), (0, 4294967295), (0, 4294967295)] 594 = true := by decide +kernel
set_option maxRecDepth 100000 in
set_option maxHeartbeats 4000000 in
theorem lf_12_22 : xleaf 6 [(0, 4294967295), (2147483669, 2147483669), (0, 4294967295), (0, 4294967295), (0, 4294967295), (0, 4294967295)] 594 = true := by decide +kernel
set_option maxRecDepth 100000 in
set_option maxHeartbeats 4000000 in
theorem lf_12_23 : xleaf 6 [(0, 4294967295), (2147483670, 2147483670), (0, 4294967295), (0, 4294967295), (0, 4294967295), (0, 4294967295)] 594 = true := by decide +kernel
set_option maxRecDepth 100000 in
set_option maxHeartbeats 4000000 in
theorem lf_12_24 : xleaf 6 [(0, 4294967295), (2147483671, 2147483671), (0, 4294967295), (0, 4294967295), (0, 4294967295), (0, 4294967295)] 594 = true := by decide +kernel
