set_option maxRecDepth 100000 in
set_option maxHeartbeats 4000000 in
theorem lf_26_26 : xleaf 6 [(0, 4294967295), (2147483673, 2147483673), (0, 4294967295), (0, 4294967295), (0, 4294967295), (0, 4294967295)] 966 = true := by decide +kernel
set_option maxRecDepth 100000 in
set_option maxHeartbeats 4000000 in
theorem lf_26_27 : xleaf 6 [(0, 4294967295), (2147483674, 2147483674), (0, 4294967295), (0, 4294967295), (0, 4294967295), (0, 4294967295)] 966 = true := by decide +kernel
set_option maxRecDepth 100000 in
set_option maxHeartbeats 4000000 in
theorem lf_26_28 : xleaf 6 [(0, 4294967295), (2147483675, 2147483675), (0, 4294967295), (0, 4294967295), (0, 4294967295), (0, 4294967295)] 966 = true := by decide +kernel
set_option maxRecDepth 100000 in
set_option maxHeartbeats 4000000 in
theorem lf_26_29 : xleaf 6 [(0, 4294967295), (2147483676, 2147483676), (0, 4294967295), (0, 4294967295), (0, 4294967295), (0, 4294967295)] 966 = true := by decide +kernel
set_option maxRecDepth 100000 in
set_option maxHeartbeats 4000000 in
theorem lf_26_30 : xleaf 6 [(0, 4294967295), (2147483677, 2147483677), (0, 4294967295), (0, 4294967295), (0, 4294967295), (0, 4294967295)] 966 = true := by decide +kernel
set_option maxRecDepth 100000 in
set_option maxHeartbeats 4000000 in
theorem lf_26_31 : xleaf 6 [(0, 4294967295), (2147483678, 2147483678), (0, 4294967295), (0, 4294967295), (0, 4294967295), (0, 4294967295)] 966 = true := by decide +kernel
set_option maxRecDepth 100000 in
set_option maxHeartbeats 4000000 in
theorem lf_26_32 : xleaf 6 [(0, 4294967295), (2147483679, 2147483679), (0, 4294967295), (0, 4294967295), (0, 4294967295), (0, 4294967295)] 966 = true := by decide +kernel
set_option maxRecDepth 100000 in
set_option maxHeartbeats 4000000 in
theorem lf_26_33 : xleaf 6 [(0, 4294967295), (2147483680, 2147483680), (0, 4294967295), (0, 4294967295), (0, 4294967295), (0, 4294967295)] 966 = true := by decide +kernel
set_option maxRecDepth 100000 in
set_option maxHeartbeats 4000000 in
theorem lf_26_34 : xleaf 6 [(0, 4294967295), (2147483681, 2147483681), (0, 4294967295), (0, 4294967295), (0, 4294967295), (0, 4294967295)] 966 = true := by decide +kernel
set_option maxRecDepth 100000 in
set_option maxHeartbeats 4000000 in
theorem lf_26_35 : xleaf 6 [(0, 4294967295), (2147483682, 2147483682), (0, 4294967295), (0, 4294967295), (0, 4294967295), (0, 4294967295)] 966 = true := by decide +kernel
set_option maxRecDepth 100000 in
set_option maxHeartbeats 4000000 in
theorem lf_26_36 : xleaf 6 [(0, 4294967295), (2147483683, 2147483683), (0, 4294967295), (0, 4294967295), (0, 4294967295), (0, 4294967295)] 966 = true := by decide +kernel
set_option maxRecDepth 100000 in
set_option maxHeartbeats 4000000 in
theorem lf_26_37 : xleaf 6 [(0, 4294967295), (2147483684, 2147483684), (0, 4294967295), (0, 4294967295), (0, 4294967295), (0, 4294967295)] 966 = true := by decide +kernel
set_option maxRecDepth 100000 in
set_option maxHeartbeats 4000000 in
theorem lf_26_38 : xleaf 6 [(0, 4294967295), (2147483685, 2147483685), (0, 4294967295), (0, 4294967295), (0, 4294967295), (0, 4294967295)] 966 = true := by decide +kernel
