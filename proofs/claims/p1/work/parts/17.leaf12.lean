set_option maxRecDepth 100000 in
set_option maxHeartbeats 4000000 in
theorem lf_26_39 : xleaf 6 [(0, 4294967295), (2147483686, 2147483686), (0, 4294967295), (0, 4294967295), (0, 4294967295), (0, 4294967295)] 966 = true := by decide +kernel
set_option maxRecDepth 100000 in
set_option maxHeartbeats 4000000 in
theorem lf_26_40 : xleaf 6 [(0, 4294967295), (2147483687, 2147483687), (0, 4294967295), (0, 4294967295), (0, 4294967295), (0, 4294967295)] 966 = true := by decide +kernel
set_option maxRecDepth 100000 in
set_option maxHeartbeats 4000000 in
theorem lf_26_41 : xleaf 6 [(0, 4294967295), (2147483688, 2147483688), (0, 4294967295), (0, 4294967295), (0, 4294967295), (0, 4294967295)] 966 = true := by decide +kernel
set_option maxRecDepth 100000 in
set_option maxHeartbeats 4000000 in
theorem lf_26_42 : xleaf 6 [(0, 4294967295), (2147483689, 2147483689), (0, 4294967295), (0, 4294967295), (0, 4294967295), (0, 4294967295)] 966 = true := by decide +kernel
set_option maxRecDepth 100000 in
set_option maxHeartbeats 4000000 in
theorem lf_26_43 : xleaf 6 [(0, 4294967295), (2147483690, 2147483690), (0, 4294967295), (0, 4294967295), (0, 4294967295), (0, 4294967295)] 966 = true := by decide +kernel
set_option maxRecDepth 100000 in
set_option maxHeartbeats 4000000 in
theorem lf_26_44 : xleaf 6 [(0, 4294967295), (2147483691, 2147483691), (0, 4294967295), (0, 4294967295), (0, 4294967295), (0, 4294967295)] 966 = true := by decide +kernel
set_option maxRecDepth 100000 in
set_option maxHeartbeats 4000000 in
theorem lf_26_45 : xleaf 6 [(0, 4294967295), (2147483692, 2147483692), (0, 4294967295), (0, 4294967295), (0, 4294967295), (0, 4294967295)] 966 = true := by decide +kernel
set_option maxRecDepth 100000 in
set_option maxHeartbeats 4000000 in
theorem lf_26_46 : xleaf 6 [(0, 4294967295), (2147483693, 2147483693), (0, 4294967295), (0, 4294967295), (0, 4294967295), (0, 4294967295)] 966 = true := by decide +kernel
set_option maxRecDepth 100000 in
set_option maxHeartbeats 4000000 in
theorem lf_26_47 : xleaf 6 [(0, 4294967295), (2147483694, 2147483694), (0, 4294967295), (0, 4294967295), (0, 4294967295), (0, 4294967295)] 966 = true := by decide +kernel
set_option maxRecDepth 100000 in
set_option maxHeartbeats 4000000 in
theorem lf_26_48 : xleaf 6 [(0, 4294967295), (2147483695, 2147483695), (0, 4294967295), (0, 4294967295), (0, 4294967295), (0, 4294967295)] 966 = true := by decide +kernel
