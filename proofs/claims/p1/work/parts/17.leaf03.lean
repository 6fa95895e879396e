set_option maxRecDepth 100000 in
set_option maxHeartbeats 4000000 in
theorem lf_12_25 : xleaf 6 [(0, 4294967295), (2147483672, 2147483672), (0, 4294967295), (0, 4294967295), (0, 4294967295), (0, 4294967295)] 594 = true := by decide +kernel
set_option maxRecDepth 100000 in
set_option maxHeartbeats 4000000 in
theorem lf_12_26 : xleaf 6 [(0, 4294967295), (2147483673, 2147483673), (0, 4294967295), (0, 4294967295), (0, 4294967295), (0, 4294967295)] 594 = true := by decide +kernel
set_option maxRecDepth 100000 in
set_option maxHeartbeats 4000000 in
theorem lf_12_27 : xleaf 6 [(0, 4294967295), (2147483674, 2147483674), (0, 4294967295), (0, 4294967295), (0, 4294967295), (0, 4294967295)] 594 = true := by decide +kernel
set_option maxRecDepth 100000 in
set_option maxHeartbeats 4000000 in
theorem lf_12_28 : xleaf 6 [(0, 4294967295), (2147483675, 2147483675), (0, 4294967295), (0, 4294967295), (0, 4294967295), (0, 4294967295)] 594 = true := by decide +kernel
set_option maxRecDepth 100000 in
set_option maxHeartbeats 4000000 in
theorem lf_12_29 : xleaf 6 [(0, 4294967295), (2147483676, 2147483676), (0, 4294967295), (0, 4294967295), (0, 4294967295), (0, 4294967295)] 594 = true := by decide +kernel
set_option maxRecDepth 100000 in
set_option maxHeartbeats 4000000 in
theorem lf_12_30 : xleaf 6 [(0, 4294967295), (2147483677, 2147483677), (0, 4294967295), (0, 4294967295), (0, 4294967295), (0, 4294967295)] 594 = true := by decide +kernel
set_option maxRecDepth 100000 in
set_option maxHeartbeats 4000000 in
theorem lf_12_31 : xleaf 6 [(0, 4294967295), (2147483678, 2147483678), (0, 4294967295), (0, 4294967295), (0, 4294967295), (0, 4294967295)] 594 = true := by decide +kernel
