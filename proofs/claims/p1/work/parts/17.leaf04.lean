set_option maxRecDepth 100000 in
set_option maxHeartbeats 4000000 in
theorem lf_12_32 : xleaf 6 [(0, 4294967295), (2147483679, 2147483679), (0, 4294967295), (0, 4294967295), (0, 4294967295), (0, 4294967295)] 594 = true := by decide +kernel
set_option maxRecDepth 100000 in
set_option maxHeartbeats 4000000 in
theorem lf_12_33 : xleaf 6 [(0, 4294967295), (2147483680, 2147483680), (0, 4294967295), (0, 4294967295), (0, 4294967295), (0, 4294967295)] 594 = true := by decide +kernel
set_option maxRecDepth 100000 in
set_option maxHeartbeats 4000000 in
theorem lf_12_34 : xleaf 6 [(0, 4294967295), (2147483681, 2147483681), (0, 4294967295), (0, 4294967295), (0, 4294967295), (0, 4294967295)] 594 = true := by decide +kernel
set_option maxRecDepth 100000 in
set_option maxHeartbeats 4000000 in
theorem lf_12_35 : xleaf 6 [(0, 4294967295), (2147483682, 2147483682), (0, 4294967295), (0, 4294967295), (0, 4294967295), (0, 4294967295)] 594 = true := by decide +kernel
set_option maxRecDepth 100000 in
set_option maxHeartbeats 4000000 in
theorem lf_12_36 : xleaf 6 [(0, 4294967295), (2147483683, 2147483683), (0, 4294967295), (0, 4294967295), (0, 4294967295), (0, 4294967295)] 594 = true := by decide +kernel
set_option maxRecDepth 100000 in
set_option maxHeartbeats 4000000 in
theorem lf_12_37 : xleaf 6 [(0, 4294967295), (2147483684, 2147483684), (0, 4294967295), (0, 4294967295), (0, 4294967295), (0, 4294967295)] 594 = true := by decide +kernel
