set_option maxRecDepth 100000 in
set_option maxHeartbeats 4000000 in
theorem lf_12_44 : xleaf 6 [(0, 4294967295), (2147483691, 2147483691), (0, 4294967295), (0, 4294967295), (0, 4294967295), (0, 4294967295)] 594 = true := by decide +kernel
set_option maxRecDepth 100000 in
set_option maxHeartbeats 4000000 in
theorem lf_12_45 : xleaf 6 [(0, 4294967295), (2147483692, 2147483692), (0, 4294967295), (0, 4294967295), (0, 4294967295), (0, 4294967295)] 594 = true := by decide +kernel
set_option maxRecDepth 100000 in
set_option maxHeartbeats 4000000 in
theorem lf_12_46 : xleaf 6 [(0, 4294967295), (2147483693, 2147483693), (0, 4294967295), (0, 4294967295), (0, 4294967295), (0, 4294967295)] 594 = true := by decide +kernel
set_option maxRecDepth 100000 in
set_option maxHeartbeats 4000000 in
theorem lf_12_47 : xleaf 6 [(0, 4294967295), (2147483694, 2147483694), (0, 4294967295), (0, 4294967295), (0, 4294967295), (0, 4294967295)] 594 = true := by decide +kernel
set_option maxRecDepth 100000 in
set_option maxHeartbeats 4000000 in
theorem lf_12_48 : xleaf 6 [(0, 4294967295), (2147483695, 2147483695), (0, 4294967295), (0, 4294967295), (0, 4294967295), (0, 4294967295)] 594 = true := by decide +kernel
set_option maxRecDepth 100000 in
set_option maxHeartbeats 4000000 in
theorem lf_12_49 : xleaf 6 [(0, 4294967295), (2147483696, 2147483696), (0, 4294967295), (0, 4294967295), (0, 4294967295), (0, 4294967295)] 594 = true := by decide +kernel
