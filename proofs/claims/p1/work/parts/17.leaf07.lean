set_option maxRecDepth 100000 in
set_option maxHeartbeats 4000000 in
theorem lf_12_50 : xleaf 6 [(0, 4294967295), (2147483697, 2147483697), (0, 4294967295), (0, 4294967295), (0, 4294967295), (0, 4294967295)] 594 = true := by decide +kernel
set_option maxRecDepth 100000 in
set_option maxHeartbeats 4000000 in
theorem lf_12_51 : xleaf 6 [(0, 4294967295), (2147483698, 2147483698), (0, 4294967295), (0, 4294967295), (0, 4294967295), (0, 4294967295)] 594 = true := by decide +kernel
set_option maxRecDepth 100000 in
set_option maxHeartbeats 4000000 in
theorem lf_12_52 : xleaf 6 [(0, 4294967295), (2147483699, 2147483699), (0, 4294967295), (0, 4294967295), (0, 4294967295), (0, 4294967295)] 594 = true := by decide +kernel
set_option maxRecDepth 100000 in
set_option maxHeartbeats 4000000 in
theorem lf_12_53 : xleaf 6 [(0, 4294967295), (2147483700, 2147483700), (0, 4294967295), (0, 4294967295), (0, 4294967295), (0, 4294967295)] 594 = true := by decide +kernel
set_option maxRecDepth 100000 in
set_option maxHeartbeats 4000000 in
theorem lf_12_54 : xleaf 6 [(0, 4294967295), (2147483701, 2147483701), (0, 4294967295), (0, 4294967295), (0, 4294967295), (0, 4294967295)] 594 = true := by decide +kernel
set_option maxRecDepth 100000 in
set_option maxHeartbeats 4000000 in
theorem lf_12_55 : xleaf 6 [(0, 4294967295), (2147483702, 2147483702), (0, 4294967295), (0, 4294967295), (0, 4294967295), (0, 4294967295)] 594 = true := by decide +kernel
