set_option maxRecDepth 100000 in
set_option maxHeartbeats 4000000 in
theorem lf_12_38 : xleaf 6 [(0, 4294967295), (2147483685, 2147483685), (0, 4294967295), (0, 4294967295), (0, 4294967295), (0, 4294967295)] 594 = true := by decide +kernel
set_option maxRecDepth 100000 in
set_option maxHeartbeats 4000000 in
theorem lf_12_39 : xleaf 6 [(0, 4294967295), (2147483686, 2147483686), (0, 4294967295), (0, 4294967295), (0, 4294967295), (0, 4294967295)] 594 = true := by decide +kernel
set_option maxRecDepth 100000 in
set_option maxHeartbeats 4000000 in
theorem lf_12_40 : xleaf 6 [(0, 4294967295), (2147483687, 2147483687), (0, 4294967295), (0, 4294967295), (0, 4294967295), (0, 4294967295)] 594 = true := by decide +kernel
set_option maxRecDepth 100000 in
set_option maxHeartbeats 4000000 in
theorem lf_12_41 : xleaf 6 [(0, 4294967295), (2147483688, 2147483688), (0, 4294967295), (0, 4294967295), (0, 4294967295), (0, 4294967295)] 594 = true := by decide +kernel
set_option maxRecDepth 100000 in
set_option maxHeartbeats 4000000 in
theorem lf_12_42 : xleaf 6 [(0, 4294967295), (2147483689, 2147483689), (0, 4294967295), (0, 4294967295), (0, 4294967295), (0, 4294967295)] 594 = true := by decide +kernel
set_option maxRecDepth 100000 in
set_option maxHeartbeats 4000000 in
theorem lf_12_43 : xleaf 6 [(0, 4294967295), (2147483690, 2147483690), (0, 4294967295), (0, 4294967295), (0, 4294967295), (0, 4294967295)] 594 = true := by decide +kernel
