/-- from here the law comes to its end with true -/
noncomputable def xleaf (sl : Nat) (sb : List (Nat × Nat)) (pc : Nat) : Bool := match yrun (TL sl sb) xCa 3000 (pc, xL1, [], xw1) with
  | some (pc', _, [.inl a], w) => Nat.beq pc' 1256 && (Nat.beq a.1 2147483649 && (Nat.beq a.2 2147483649 && (Nat.ble w.2.1 600000 && Nat.ble w.1 7302250)))
  | _ => false
set_option maxRecDepth 100000 in
set_option maxHeartbeats 4000000 in
theorem lfS_0 : xleaf 0 [] 18 = true := by decide +kernel
set_option maxRecDepth 100000 in
set_option maxHeartbeats 4000000 in
theorem lfS_1 : xleaf 1 [] 18 = true := by decide +kernel
set_option maxRecDepth 100000 in
set_option maxHeartbeats 4000000 in
theorem lfS_2 : xleaf 2 [] 18 = true := by decide +kernel
set_option maxRecDepth 100000 in
set_option maxHeartbeats 4000000 in
theorem lfS_3 : xleaf 3 [] 18 = true := by decide +kernel
set_option maxRecDepth 100000 in
set_option maxHeartbeats 4000000 in
theorem lfS_4 : xleaf 4 [] 18 = true := by decide +kernel
set_option maxRecDepth 100000 in
set_option maxHeartbeats 4000000 in
theorem lfS_5 : xleaf 5 [] 18 = true := by decide +kernel
set_option maxRecDepth 100000 in
set_option maxHeartbeats 4000000 in
theorem runB0 : qO qS (yrun (TL 6 []) xCa 100 (18, xL1, [], xw1)) (some (27, xL1, [], xw1)) = true := by decide +kernel
theorem runB : xrun (TL 6 []) xCa 100 (18, xL1, [], xw1) = some (27, xL1, [], xw1) := (yrun_eq _ _ _ _).symm.trans (qO_ok qS_ok _ _ runB0)
