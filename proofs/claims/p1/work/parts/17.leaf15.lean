set_option maxRecDepth 100000 in
set_option maxHeartbeats 4000000 in
theorem lf_34_10 : xleaf 6 [(0, 4294967295), (2147483657, 2147483657), (0, 4294967295), (0, 4294967295), (0, 4294967295), (0, 4294967295)] 1226 = true := by decide +kernel
set_option maxRecDepth 100000 in
set_option maxHeartbeats 4000000 in
theorem lf_34_11 : xleaf 6 [(0, 4294967295), (2147483658, 2147483658), (0, 4294967295), (0, 4294967295), (0, 4294967295), (0, 4294967295)] 1226 = true := by decide +kernel
set_option maxRecDepth 100000 in
set_option maxHeartbeats 4000000 in
theorem lf_34_12 : xleaf 6 [(0, 4294967295), (2147483659, 2147483659), (0, 4294967295), (0, 4294967295), (0, 4294967295), (0, 4294967295)] 1226 = true := by decide +kernel
set_option maxRecDepth 100000 in
set_option maxHeartbeats 4000000 in
theorem lf_34_13 : xleaf 6 [(0, 4294967295), (2147483660, 2147483660), (0, 4294967295), (0, 4294967295), (0, 4294967295), (0, 4294967295)] 1226 = true := by decide +kernel
set_option maxRecDepth 100000 in
set_option maxHeartbeats 4000000 in
theorem lf_34_14 : xleaf 6 [(0, 4294967295), (2147483661, 2147483661), (0, 4294967295), (0, 4294967295), (0, 4294967295), (0, 4294967295)] 1226 = true := by decide +kernel
set_option maxRecDepth 100000 in
set_option maxHeartbeats 4000000 in
theorem lf_34_15 : xleaf 6 [(0, 4294967295), (2147483662, 2147483662), (0, 4294967295), (0, 4294967295), (0, 4294967295), (0, 4294967295)] 1226 = true := by decide +kernel
set_option maxRecDepth 100000 in
set_option maxHeartbeats 4000000 in
theorem lf_34_16 : xleaf 6 [(0, 4294967295), (2147483663, 2147483663), (0, 4294967295), (0, 4294967295), (0, 4294967295), (0, 4294967295)] 1226 = true := by decide +kernel
set_option maxRecDepth 100000 in
set_option maxHeartbeats 4000000 in
theorem lf_34_17 : xleaf 6 [(0, 4294967295), (2147483664, 4294967295), (0, 4294967295), (0, 4294967295), (0, 4294967295), (0, 4294967295)] 1226 = true := by decide +kernel
set_option maxRecDepth 100000 in
set_option maxHeartbeats 4000000 in
theorem lf_default_0 : xleaf 6 [(0, 4294967295), (0, 4294967295), (0, 4294967295), (0, 4294967295), (0, 4294967295), (0, 4294967295)] 1249 = true := by decide +kernel
