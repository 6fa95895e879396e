set_option maxRecDepth 100000 in
set_option maxHeartbeats 4000000 in
theorem lf_26_8 : xleaf 6 [(0, 4294967295), (2147483655, 2147483655), (0, 4294967295), (0, 4294967295), (0, 4294967295), (0, 4294967295)] 966 = true := by decide +kernel
set_option maxRecDepth 100000 in
set_option maxHeartbeats 4000000 in
theorem lf_26_9 : xleaf 6 [(0, 4294967295), (2147483656, 2147483656), (0, 4294967295), (0, 4294967295), (0, 4294967295), (0, 4294967295)] 966 = true := by decide +kernel
set_option maxRecDepth 100000 in
set_option maxHeartbeats 4000000 in
theorem lf_26_10 : xleaf 6 [(0, 4294967295), (2147483657, 2147483657), (0, 4294967295), (0, 4294967295), (0, 4294967295), (0, 4294967295)] 966 = true := by decide +kernel
set_option maxRecDepth 100000 in
set_option maxHeartbeats 4000000 in
theorem lf_26_11 : xleaf 6 [(0, 4294967295), (2147483658, 2147483658), (0, 4294967295), (0, 4294967295), (0, 4294967295), (0, 4294967295)] 966 = true := by decide +kernel
set_option maxRecDepth 100000 in
set_option maxHeartbeats 4000000 in
theorem lf_26_12 : xleaf 6 [(0, 4294967295), (2147483659, 2147483659), (0, 4294967295), (0, 4294967295), (0, 4294967295), (0, 4294967295)] 966 = true := by decide +kernel
set_option maxRecDepth 100000 in
set_option maxHeartbeats 4000000 in
theorem lf_26_13 : xleaf 6 [(0, 4294967295), (2147483660, 2147483660), (0, 4294967295), (0, 4294967295), (0, 4294967295), (0, 4294967295)] 966 = true := by decide +kernel
set_option maxRecDepth 100000 in
set_option maxHeartbeats 4000000 in
theorem lf_26_14 : xleaf 6 [(0, 4294967295), (2147483661, 2147483661), (0, 4294967295), (0, 4294967295), (0, 4294967295), (0, 4294967295)] 966 = true := by decide +kernel
set_option maxRecDepth 100000 in
set_option maxHeartbeats 4000000 in
theorem lf_26_15 : xleaf 6 [(0, 4294967295), (2147483662, 2147483662), (0, 4294967295), (0, 4294967295), (0, 4294967295), (0, 4294967295)] 966 = true := by decide +kernel
set_option maxRecDepth 100000 in
set_option maxHeartbeats 4000000 in
theorem lf_26_16 : xleaf 6 [(0, 4294967295), (2147483663, 2147483663), (0, 4294967295), (0, 4294967295), (0, 4294967295), (0, 4294967295)] 966 = true := by decide +kernel
set_option maxRecDepth 100000 in
set_option maxHeartbeats 4000000 in
theorem lf_26_17 : xleaf 6 [(0, 4294967295), (2147483664, 2147483664), (0, 4294967295), (0, 4294967295), (0, 4294967295), (0, 4294967295)] 966 = true := by decide +kernel
set_option maxRecDepth 100000 in
set_option maxHeartbeats 4000000 in
theorem lf_26_18 : xleaf 6 [(0, 4294967295), (2147483665, 2147483665), (0, 4294967295), (0, 4294967295), (0, 4294967295), (0, 4294967295)] 966 = true := by decide +kernel
set_option maxRecDepth 100000 in
set_option maxHeartbeats 4000000 in
theorem lf_26_19 : xleaf 6 [(0, 4294967295), (2147483666, 2147483666), (0, 4294967295), (0, 4294967295), (0, 4294967295), (0, 4294967295)] 966 = true := by decide +kernel
set_option maxRecDepth 100000 in
set_option maxHeartbeats 4000000 in
theorem lf_26_20 : xleaf 6 [(0, 4294967295), (2147483667, 2147483667), (0, 4294967295), (0, 4294967295), (0, 4294967295), (0, 4294967295)] 966 = true := by decide +kernel
set_option maxRecDepth 100000 in
set_option maxHeartbeats 4000000 in
theorem lf_26_21 : xleaf 6 [(0, 4294967295), (2147483668, 2147483668), (0, 4294967295), (0, 4294967295), (0, 4294967295), (0, 4294967295)] 966 = true := by decide +kernel
set_option maxRecDepth 100000 in
set_option maxHeartbeats 4000000 in
theorem lf_26_22 : xleaf 6 [(0, 4294967295), (2147483669, 2147483669), (0, 4294967295), (0, 4294967295), (0, 4294967295), (0, 4294967295)] 966 = true := by decide +kernel
set_option maxRecDepth 100000 in
set_option maxHeartbeats 4000000 in
theorem lf_26_23 : xleaf 6 [(0, 4294967295), (2147483670, 2147483670), (0, 4294967295), (0, 4294967295), (0, 4294967295), (0, 4294967295)] 966 = true := by decide +kernel
set_option maxRecDepth 100000 in
set_option maxHeartbeats 4000000 in
theorem lf_26_24 : xleaf 6 [(0, 4294967295), (2147483671, 2147483671), (0, 4294967295), (0, 4294967295), (0, 4294967295), (0, 4294967295)] 966 = true := by decide +kernel
set_option maxRecDepth 100000 in
set_option maxHeartbeats 4000000 in
theorem lf_26_25 : xleaf 6 [(0, 4294967295), (2147483672, 2147483672), (0, 4294967295), (0, 4294967295), (0, 4294967295), (0, 4294967295)] 966 = true := by decide +kernel
