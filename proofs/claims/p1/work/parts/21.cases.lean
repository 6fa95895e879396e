set_option maxRecDepth 100000 in
set_option maxHeartbeats 4000000 in
theorem case_0 {p : Program} {l : Launch} {e : Env} {s : State} {m : MethodId} {below : List Frame} {meth : Method} {c : Code} {b : Nat} {xs : Nat → Int32} {D : va_G} {tys : List (ClassId × FieldType)} {ls : Array Slot} {H : Heap} {locs : List Loc} {cells slots : Nat} (h : xLw p s m meth c b 6 xs D tys) (hM : xMem D tys s.heap.size b s 0 0 xw1 H locs cells slots) (hL : xRL s.heap.size b xL1 ls 4) : W p l e room_1 s m #[Value.ref b] below meth c H locs cells slots (lw_Z below #[Value.ref b] s) (F0 m 188 ls []) := by
  exact leaf_ok lf_0_0 h (xB6 (xRI_top _) (xRI_top _) (xRI_top _) (xRI_top _) (xRI_top _) (xRI_top _)) hM hL
set_option maxRecDepth 100000 in
set_option maxHeartbeats 4000000 in
theorem case_1 {p : Program} {l : Launch} {e : Env} {s : State} {m : MethodId} {below : List Frame} {meth : Method} {c : Code} {b : Nat} {xs : Nat → Int32} {D : va_G} {tys : List (ClassId × FieldType)} {ls : Array Slot} {H : Heap} {locs : List Loc} {cells slots : Nat} (h : xLw p s m meth c b 6 xs D tys) (hM : xMem D tys s.heap.size b s 0 0 xw1 H locs cells slots) (hL : xRL s.heap.size b xL1 ls 4) : W p l e room_1 s m #[Value.ref b] below meth c H locs cells slots (lw_Z below #[Value.ref b] s) (F0 m 251 ls []) := by
  have hb1 := xo_lt (xs 1)
  rcases Nat.lt_or_ge (xo (xs 1)) 2147483648 with g1 | g1
  · exact leaf_ok lf_1_0 h (xB6 (xRI_top _) ⟨by omega, by omega⟩ (xRI_top _) (xRI_top _) (xRI_top _) (xRI_top _)) hM hL
  · rcases Nat.lt_or_ge (xo (xs 1)) 2147483649 with g2 | g2
    · exact leaf_ok lf_1_1 h (xB6 (xRI_top _) ⟨by omega, by omega⟩ (xRI_top _) (xRI_top _) (xRI_top _) (xRI_top _)) hM hL
    · exact leaf_ok lf_1_2 h (xB6 (xRI_top _) ⟨by omega, by omega⟩ (xRI_top _) (xRI_top _) (xRI_top _) (xRI_top _)) hM hL
set_option maxRecDepth 100000 in
set_option maxHeartbeats 4000000 in
theorem case_2 {p : Program} {l : Launch} {e : Env} {s : State} {m : MethodId} {below : List Frame} {meth : Method} {c : Code} {b : Nat} {xs : Nat → Int32} {D : va_G} {tys : List (ClassId × FieldType)} {ls : Array Slot} {H : Heap} {locs : List Loc} {cells slots : Nat} (h : xLw p s m meth c b 6 xs D tys) (hM : xMem D tys s.heap.size b s 0 0 xw1 H locs cells slots) (hL : xRL s.heap.size b xL1 ls 4) : W p l e room_1 s m #[Value.ref b] below meth c H locs cells slots (lw_Z below #[Value.ref b] s) (F0 m 274 ls []) := by
  exact leaf_ok lf_2_0 h (xB6 (xRI_top _) (xRI_top _) (xRI_top _) (xRI_top _) (xRI_top _) (xRI_top _)) hM hL
set_option maxRecDepth 100000 in
set_option maxHeartbeats 4000000 in
theorem case_3 {p : Program} {l : Launch} {e : Env} {s : State} {m : MethodId} {below : List Frame} {meth : Method} {c : Code} {b : Nat} {xs : Nat → Int32} {D : va_G} {tys : List (ClassId × FieldType)} {ls : Array Slot} {H : Heap} {locs : List Loc} {cells slots : Nat} (h : xLw p s m meth c b 6 xs D tys) (hM : xMem D tys s.heap.size b s 0 0 xw1 H locs cells slots) (hL : xRL s.heap.size b xL1 ls 4) : W p l e room_1 s m #[Value.ref b] below meth c H locs cells slots (lw_Z below #[Value.ref b] s) (F0 m 287 ls []) := by
  exact leaf_ok lf_3_0 h (xB6 (xRI_top _) (xRI_top _) (xRI_top _) (xRI_top _) (xRI_top _) (xRI_top _)) hM hL
set_option maxRecDepth 100000 in
set_option maxHeartbeats 4000000 in
theorem case_4 {p : Program} {l : Launch} {e : Env} {s : State} {m : MethodId} {below : List Frame} {meth : Method} {c : Code} {b : Nat} {xs : Nat → Int32} {D : va_G} {tys : List (ClassId × FieldType)} {ls : Array Slot} {H : Heap} {locs : List Loc} {cells slots : Nat} (h : xLw p s m meth c b 6 xs D tys) (hM : xMem D tys s.heap.size b s 0 0 xw1 H locs cells slots) (hL : xRL s.heap.size b xL1 ls 4) : W p l e room_1 s m #[Value.ref b] below meth c H locs cells slots (lw_Z below #[Value.ref b] s) (F0 m 300 ls []) := by
  have hb1 := xo_lt (xs 1)
  rcases Nat.lt_or_ge (xo (xs 1)) 2147483648 with g1 | g1
  · exact leaf_ok lf_4_0 h (xB6 (xRI_top _) ⟨by omega, by omega⟩ (xRI_top _) (xRI_top _) (xRI_top _) (xRI_top _)) hM hL
  · exact leaf_ok lf_4_1 h (xB6 (xRI_top _) ⟨by omega, by omega⟩ (xRI_top _) (xRI_top _) (xRI_top _) (xRI_top _)) hM hL
set_option maxRecDepth 100000 in
set_option maxHeartbeats 4000000 in
theorem case_5 {p : Program} {l : Launch} {e : Env} {s : State} {m : MethodId} {below : List Frame} {meth : Method} {c : Code} {b : Nat} {xs : Nat → Int32} {D : va_G} {tys : List (ClassId × FieldType)} {ls : Array Slot} {H : Heap} {locs : List Loc} {cells slots : Nat} (h : xLw p s m meth c b 6 xs D tys) (hM : xMem D tys s.heap.size b s 0 0 xw1 H locs cells slots) (hL : xRL s.heap.size b xL1 ls 4) : W p l e room_1 s m #[Value.ref b] below meth c H locs cells slots (lw_Z below #[Value.ref b] s) (F0 m 343 ls []) := by
  have hb1 := xo_lt (xs 1)
  rcases Nat.lt_or_ge (xo (xs 1)) 2147483648 with g1 | g1
  · exact leaf_ok lf_5_0 h (xB6 (xRI_top _) ⟨by omega, by omega⟩ (xRI_top _) (xRI_top _) (xRI_top _) (xRI_top _)) hM hL
  · exact leaf_ok lf_5_1 h (xB6 (xRI_top _) ⟨by omega, by omega⟩ (xRI_top _) (xRI_top _) (xRI_top _) (xRI_top _)) hM hL
set_option maxRecDepth 100000 in
set_option maxHeartbeats 4000000 in
theorem case_6 {p : Program} {l : Launch} {e : Env} {s : State} {m : MethodId} {below : List Frame} {meth : Method} {c : Code} {b : Nat} {xs : Nat → Int32} {D : va_G} {tys : List (ClassId × FieldType)} {ls : Array Slot} {H : Heap} {locs : List Loc} {cells slots : Nat} (h : xLw p s m meth c b 6 xs D tys) (hM : xMem D tys s.heap.size b s 0 0 xw1 H locs cells slots) (hL : xRL s.heap.size b xL1 ls 4) : W p l e room_1 s m #[Value.ref b] below meth c H locs cells slots (lw_Z below #[Value.ref b] s) (F0 m 376 ls []) := by
  have hb1 := xo_lt (xs 1)
  rcases Nat.lt_or_ge (xo (xs 1)) 2147483648 with g1 | g1
  · exact leaf_ok lf_6_0 h (xB6 (xRI_top _) ⟨by omega, by omega⟩ (xRI_top _) (xRI_top _) (xRI_top _) (xRI_top _)) hM hL
  · exact leaf_ok lf_6_1 h (xB6 (xRI_top _) ⟨by omega, by omega⟩ (xRI_top _) (xRI_top _) (xRI_top _) (xRI_top _)) hM hL
set_option maxRecDepth 100000 in
set_option maxHeartbeats 4000000 in
theorem case_7 {p : Program} {l : Launch} {e : Env} {s : State} {m : MethodId} {below : List Frame} {meth : Method} {c : Code} {b : Nat} {xs : Nat → Int32} {D : va_G} {tys : List (ClassId × FieldType)} {ls : Array Slot} {H : Heap} {locs : List Loc} {cells slots : Nat} (h : xLw p s m meth c b 6 xs D tys) (hM : xMem D tys s.heap.size b s 0 0 xw1 H locs cells slots) (hL : xRL s.heap.size b xL1 ls 4) : W p l e room_1 s m #[Value.ref b] below meth c H locs cells slots (lw_Z below #[Value.ref b] s) (F0 m 409 ls []) := by
  have hb1 := xo_lt (xs 1)
  rcases Nat.lt_or_ge (xo (xs 1)) 2147483648 with g1 | g1
  · exact leaf_ok lf_7_0 h (xB6 (xRI_top _) ⟨by omega, by omega⟩ (xRI_top _) (xRI_top _) (xRI_top _) (xRI_top _)) hM hL
  · exact leaf_ok lf_7_1 h (xB6 (xRI_top _) ⟨by omega, by omega⟩ (xRI_top _) (xRI_top _) (xRI_top _) (xRI_top _)) hM hL
set_option maxRecDepth 100000 in
set_option maxHeartbeats 4000000 in
theorem case_8 {p : Program} {l : Launch} {e : Env} {s : State} {m : MethodId} {below : List Frame} {meth : Method} {c : Code} {b : Nat} {xs : Nat → Int32} {D : va_G} {tys : List (ClassId × FieldType)} {ls : Array Slot} {H : Heap} {locs : List Loc} {cells slots : Nat} (h : xLw p s m meth c b 6 xs D tys) (hM : xMem D tys s.heap.size b s 0 0 xw1 H locs cells slots) (hL : xRL s.heap.size b xL1 ls 4) : W p l e room_1 s m #[Value.ref b] below meth c H locs cells slots (lw_Z below #[Value.ref b] s) (F0 m 462 ls []) := by
  have hb1 := xo_lt (xs 1)
  rcases Nat.lt_or_ge (xo (xs 1)) 2147483648 with g1 | g1
  · exact leaf_ok lf_8_0 h (xB6 (xRI_top _) ⟨by omega, by omega⟩ (xRI_top _) (xRI_top _) (xRI_top _) (xRI_top _)) hM hL
  · exact leaf_ok lf_8_1 h (xB6 (xRI_top _) ⟨by omega, by omega⟩ (xRI_top _) (xRI_top _) (xRI_top _) (xRI_top _)) hM hL
set_option maxRecDepth 100000 in
set_option maxHeartbeats 4000000 in
theorem case_9 {p : Program} {l : Launch} {e : Env} {s : State} {m : MethodId} {below : List Frame} {meth : Method} {c : Code} {b : Nat} {xs : Nat → Int32} {D : va_G} {tys : List (ClassId × FieldType)} {ls : Array Slot} {H : Heap} {locs : List Loc} {cells slots : Nat} (h : xLw p s m meth c b 6 xs D tys) (hM : xMem D tys s.heap.size b s 0 0 xw1 H locs cells slots) (hL : xRL s.heap.size b xL1 ls 4) : W p l e room_1 s m #[Value.ref b] below meth c H locs cells slots (lw_Z below #[Value.ref b] s) (F0 m 485 ls []) := by
  have hb1 := xo_lt (xs 1)
  rcases Nat.lt_or_ge (xo (xs 1)) 2147483648 with g1 | g1
  · exact leaf_ok lf_9_0 h (xB6 (xRI_top _) ⟨by omega, by omega⟩ (xRI_top _) (xRI_top _) (xRI_top _) (xRI_top _)) hM hL
  · exact leaf_ok lf_9_1 h (xB6 (xRI_top _) ⟨by omega, by omega⟩ (xRI_top _) (xRI_top _) (xRI_top _) (xRI_top _)) hM hL
set_option maxRecDepth 100000 in
set_option maxHeartbeats 4000000 in
theorem case_10 {p : Program} {l : Launch} {e : Env} {s : State} {m : MethodId} {below : List Frame} {meth : Method} {c : Code} {b : Nat} {xs : Nat → Int32} {D : va_G} {tys : List (ClassId × FieldType)} {ls : Array Slot} {H : Heap} {locs : List Loc} {cells slots : Nat} (h : xLw p s m meth c b 6 xs D tys) (hM : xMem D tys s.heap.size b s 0 0 xw1 H locs cells slots) (hL : xRL s.heap.size b xL1 ls 4) : W p l e room_1 s m #[Value.ref b] below meth c H locs cells slots (lw_Z below #[Value.ref b] s) (F0 m 508 ls []) := by
  have hb1 := xo_lt (xs 1)
  rcases Nat.lt_or_ge (xo (xs 1)) 2147483648 with g1 | g1
  · exact leaf_ok lf_10_0 h (xB6 (xRI_top _) ⟨by omega, by omega⟩ (xRI_top _) (xRI_top _) (xRI_top _) (xRI_top _)) hM hL
  · exact leaf_ok lf_10_1 h (xB6 (xRI_top _) ⟨by omega, by omega⟩ (xRI_top _) (xRI_top _) (xRI_top _) (xRI_top _)) hM hL
set_option maxRecDepth 100000 in
set_option maxHeartbeats 4000000 in
theorem case_11 {p : Program} {l : Launch} {e : Env} {s : State} {m : MethodId} {below : List Frame} {meth : Method} {c : Code} {b : Nat} {xs : Nat → Int32} {D : va_G} {tys : List (ClassId × FieldType)} {ls : Array Slot} {H : Heap} {locs : List Loc} {cells slots : Nat} (h : xLw p s m meth c b 6 xs D tys) (hM : xMem D tys s.heap.size b s 0 0 xw1 H locs cells slots) (hL : xRL s.heap.size b xL1 ls 4) : W p l e room_1 s m #[Value.ref b] below meth c H locs cells slots (lw_Z below #[Value.ref b] s) (F0 m 551 ls []) := by
  have hb1 := xo_lt (xs 1)
  rcases Nat.lt_or_ge (xo (xs 1)) 2147483648 with g1 | g1
  · exact leaf_ok lf_11_0 h (xB6 (xRI_top _) ⟨by omega, by omega⟩ (xRI_top _) (xRI_top _) (xRI_top _) (xRI_top _)) hM hL
  · exact leaf_ok lf_11_1 h (xB6 (xRI_top _) ⟨by omega, by omega⟩ (xRI_top _) (xRI_top _) (xRI_top _) (xRI_top _)) hM hL
set_option maxRecDepth 100000 in
set_option maxHeartbeats 4000000 in
theorem case_12 {p : Program} {l : Launch} {e : Env} {s : State} {m : MethodId} {below : List Frame} {meth : Method} {c : Code} {b : Nat} {xs : Nat → Int32} {D : va_G} {tys : List (ClassId × FieldType)} {ls : Array Slot} {H : Heap} {locs : List Loc} {cells slots : Nat} (h : xLw p s m meth c b 6 xs D tys) (hM : xMem D tys s.heap.size b s 0 0 xw1 H locs cells slots) (hL : xRL s.heap.size b xL1 ls 4) : W p l e room_1 s m #[Value.ref b] below meth c H locs cells slots (lw_Z below #[Value.ref b] s) (F0 m 594 ls []) := by
  have hb1 := xo_lt (xs 1)
  rcases Nat.lt_or_ge (xo (xs 1)) 2147483648 with g1 | g1
  · exact leaf_ok lf_12_0 h (xB6 (xRI_top _) ⟨by omega, by omega⟩ (xRI_top _) (xRI_top _) (xRI_top _) (xRI_top _)) hM hL
  · rcases Nat.lt_or_ge (xo (xs 1)) 2147483709 with g2 | g2
    · rcases Nat.lt_or_ge (xo (xs 1)) 2147483649 with g3 | g3
      · exact leaf_ok lf_12_1 h (xB6 (xRI_top _) ⟨by omega, by omega⟩ (xRI_top _) (xRI_top _) (xRI_top _) (xRI_top _)) hM hL
      · rcases Nat.lt_or_ge (xo (xs 1)) 2147483650 with g4 | g4
        · exact leaf_ok lf_12_2 h (xB6 (xRI_top _) ⟨by omega, by omega⟩ (xRI_top _) (xRI_top _) (xRI_top _) (xRI_top _)) hM hL
        · rcases Nat.lt_or_ge (xo (xs 1)) 2147483651 with g5 | g5
          · exact leaf_ok lf_12_3 h (xB6 (xRI_top _) ⟨by omega, by omega⟩ (xRI_top _) (xRI_top _) (xRI_top _) (xRI_top _)) hM hL
          · rcases Nat.lt_or_ge (xo (xs 1)) 2147483652 with g6 | g6
            · exact leaf_ok lf_12_4 h (xB6 (xRI_top _) ⟨by omega, by omega⟩ (xRI_top _) (xRI_top _) (xRI_top _) (xRI_top _)) hM hL
            · rcases Nat.lt_or_ge (xo (xs 1)) 2147483653 with g7 | g7
              · exact leaf_ok lf_12_5 h (xB6 (xRI_top _) ⟨by omega, by omega⟩ (xRI_top _) (xRI_top _) (xRI_top _) (xRI_top _)) hM hL
              · rcases Nat.lt_or_ge (xo (xs 1)) 2147483654 with g8 | g8
                · exact leaf_ok lf_12_6 h (xB6 (xRI_top _) ⟨by omega, by omega⟩ (xRI_top _) (xRI_top _) (xRI_top _) (xRI_top _)) hM hL
                · rcases Nat.lt_or_ge (xo (xs 1)) 2147483655 with g9 | g9
                  · exact leaf_ok lf_12_7 h (xB6 (xRI_top _) ⟨by omega, by omega⟩ (xRI_top _) (xRI_top _) (xRI_top _) (xRI_top _)) hM hL
                  · rcases Nat.lt_or_ge (xo (xs 1)) 2147483656 with g10 | g10
                    · exact leaf_ok lf_12_8 h (xB6 (xRI_top _) ⟨by omega, by omega⟩ (xRI_top _) (xRI_top _) (xRI_top _) (xRI_top _)) hM hL
                    · rcases Nat.lt_or_ge (xo (xs 1)) 2147483657 with g11 | g11
                      · exact leaf_ok lf_12_9 h (xB6 (xRI_top _) ⟨by omega, by omega⟩ (xRI_top _) (xRI_top _) (xRI_top _) (xRI_top _)) hM hL
                      · rcases Nat.lt_or_ge (xo (xs 1)) 2147483658 with g12 | g12
                        · exact leaf_ok lf_12_10 h (xB6 (xRI_top _) ⟨by omega, by omega⟩ (xRI_top _) (xRI_top _) (xRI_top _) (xRI_top _)) hM hL
                        · rcases Nat.lt_or_ge (xo (xs 1)) 2147483659 with g13 | g13
                          · exact leaf_ok lf_12_11 h (xB6 (xRI_top _) ⟨by omega, by omega⟩ (xRI_top _) (xRI_top _) (xRI_top _) (xRI_top _)) hM hL
                          · rcases Nat.lt_or_ge (xo (xs 1)) 2147483660 with g14 | g14
                            · exact leaf_ok lf_12_12 h (xB6 (xRI_top _) ⟨by omega, by omega⟩ (xRI_top _) (xRI_top _) (xRI_top _) (xRI_top _)) hM hL
                            · rcases Nat.lt_or_ge (xo (xs 1)) 2147483661 with g15 | g15
                              · exact leaf_ok lf_12_13 h (xB6 (xRI_top _) ⟨by omega, by omega⟩ (xRI_top _) (xRI_top _) (xRI_top _) (xRI_top _)) hM hL
                              · rcases Nat.lt_or_ge (xo (xs 1)) 2147483662 with g16 | g16
                                · exact leaf_ok lf_12_14 h (xB6 (xRI_top _) ⟨by omega, by omega⟩ (xRI_top _) (xRI_top _) (xRI_top _) (xRI_top _)) hM hL
                                · rcases Nat.lt_or_ge (xo (xs 1)) 2147483663 with g17 | g17
                                  · exact leaf_ok lf_12_15 h (xB6 (xRI_top _) ⟨by omega, by omega⟩ (xRI_top _) (xRI_top _) (xRI_top _) (xRI_top _)) hM hL
                                  · rcases Nat.lt_or_ge (xo (xs 1)) 2147483664 with g18 | g18
                                    · exact leaf_ok lf_12_16 h (xB6 (xRI_top _) ⟨by omega, by omega⟩ (xRI_top _) (xRI_top _) (xRI_top _) (xRI_top _)) hM hL
                                    · rcases Nat.lt_or_ge (xo (xs 1)) 2147483665 with g19 | g19
                                      · exact leaf_ok lf_12_17 h (xB6 (xRI_top _) ⟨by omega, by omega⟩ (xRI_top _) (xRI_top _) (xRI_top _) (xRI_top _)) hM hL
                                      · rcases Nat.lt_or_ge (xo (xs 1)) 2147483666 with g20 | g20
                                        · exact leaf_ok lf_12_18 h (xB6 (xRI_top _) ⟨by omega, by omega⟩ (xRI_top _) (xRI_top _) (xRI_top _) (xRI_top _)) hM hL
                                        · rcases Nat.lt_or_ge (xo (xs 1)) 2147483667 with g21 | g21
                                          · exact leaf_ok lf_12_19 h (xB6 (xRI_top _) ⟨by omega, by omega⟩ (xRI_top _) (xRI_top _) (xRI_top _) (xRI_top _)) hM hL
                                          · rcases Nat.lt_or_ge (xo (xs 1)) 2147483668 with g22 | g22
                                            · exact leaf_ok lf_12_20 h (xB6 (xRI_top _) ⟨by omega, by omega⟩ (xRI_top _) (xRI_top _) (xRI_top _) (xRI_top _)) hM hL
                                            · rcases Nat.lt_or_ge (xo (xs 1)) 2147483669 with g23 | g23
                                              · exact leaf_ok lf_12_21 h (xB6 (xRI_top _) ⟨by omega, by omega⟩ (xRI_top _) (xRI_top _) (xRI_top _) (xRI_top _)) hM hL
                                              · rcases Nat.lt_or_ge (xo (xs 1)) 2147483670 with g24 | g24
                                                · exact leaf_ok lf_12_22 h (xB6 (xRI_top _) ⟨by omega, by omega⟩ (xRI_top _) (xRI_top _) (xRI_top _) (xRI_top _)) hM hL
                                                · rcases Nat.lt_or_ge (xo (xs 1)) 2147483671 with g25 | g25
                                                  · exact leaf_ok lf_12_23 h (xB6 (xRI_top _) ⟨by omega, by omega⟩ (xRI_top _) (xRI_top _) (xRI_top _) (xRI_top _)) hM hL
                                                  · rcases Nat.lt_or_ge (xo (xs 1)) 2147483672 with g26 | g26
                                                    · exact leaf_ok lf_12_24 h (xB6 (xRI_top _) ⟨by omega, by omega⟩ (xRI_top _) (xRI_top _) (xRI_top _) (xRI_top _)) hM hL
                                                    · rcases Nat.lt_or_ge (xo (xs 1)) 2147483673 with g27 | g27
                                                      · exact leaf_ok lf_12_25 h (xB6 (xRI_top _) ⟨by omega, by omega⟩ (xRI_top _) (xRI_top _) (xRI_top _) (xRI_top _)) hM hL
                                                      · rcases Nat.lt_or_ge (xo (xs 1)) 2147483674 with g28 | g28
                                                        · exact leaf_ok lf_12_26 h (xB6 (xRI_top _) ⟨by omega, by omega⟩ (xRI_top _) (xRI_top _) (xRI_top _) (xRI_top _)) hM hL
                                                        · rcases Nat.lt_or_ge (xo (xs 1)) 2147483675 with g29 | g29
                                                          · exact leaf_ok lf_12_27 h (xB6 (xRI_top _) ⟨by omega, by omega⟩ (xRI_top _) (xRI_top _) (xRI_top _) (xRI_top _)) hM hL
                                                          · rcases Nat.lt_or_ge (xo (xs 1)) 2147483676 with g30 | g30
                                                            · exact leaf_ok lf_12_28 h (xB6 (xRI_top _) ⟨by omega, by omega⟩ (xRI_top _) (xRI_top _) (xRI_top _) (xRI_top _)) hM hL
                                                            · rcases Nat.lt_or_ge (xo (xs 1)) 2147483677 with g31 | g31
                                                              · exact leaf_ok lf_12_29 h (xB6 (xRI_top _) ⟨by omega, by omega⟩ (xRI_top _) (xRI_top _) (xRI_top _) (xRI_top _)) hM hL
                                                              · rcases Nat.lt_or_ge (xo (xs 1)) 2147483678 with g32 | g32
                                                                · exact leaf_ok lf_12_30 h (xB6 (xRI_top _) ⟨by omega, by omega⟩ (xRI_top _) (xRI_top _) (xRI_top _) (xRI_top _)) hM hL
                                                                · rcases Nat.lt_or_ge (xo (xs 1)) 2147483679 with g33 | g33
                                                                  · exact leaf_ok lf_12_31 h (xB6 (xRI_top _) ⟨by omega, by omega⟩ (xRI_top _) (xRI_top _) (xRI_top _) (xRI_top _)) hM hL
                                                                  · rcases Nat.lt_or_ge (xo (xs 1)) 2147483680 with g34 | g34
                                                                    · exact leaf_ok lf_12_32 h (xB6 (xRI_top _) ⟨by omega, by omega⟩ (xRI_top _) (xRI_top _) (xRI_top _) (xRI_top _)) hM hL
                                                                    · rcases Nat.lt_or_ge (xo (xs 1)) 2147483681 with g35 | g35
                                                                      · exact leaf_ok lf_12_33 h (xB6 (xRI_top _) ⟨by omega, by omega⟩ (xRI_top _) (xRI_top _) (xRI_top _) (xRI_top _)) hM hL
                                                                      · rcases Nat.lt_or_ge (xo (xs 1)) 2147483682 with g36 | g36
                                                                        · exact leaf_ok lf_12_34 h (xB6 (xRI_top _) ⟨by omega, by omega⟩ (xRI_top _) (xRI_top _) (xRI_top _) (xRI_top _)) hM hL
                                                                        · rcases Nat.lt_or_ge (xo (xs 1)) 2147483683 with g37 | g37
                                                                          · exact leaf_ok lf_12_35 h (xB6 (xRI_top _) ⟨by omega, by omega⟩ (xRI_top _) (xRI_top _) (xRI_top _) (xRI_top _)) hM hL
                                                                          · rcases Nat.lt_or_ge (xo (xs 1)) 2147483684 with g38 | g38
                                                                            · exact leaf_ok lf_12_36 h (xB6 (xRI_top _) ⟨by omega, by omega⟩ (xRI_top _) (xRI_top _) (xRI_top _) (xRI_top _)) hM hL
                                                                            · rcases Nat.lt_or_ge (xo (xs 1)) 2147483685 with g39 | g39
                                                                              · exact leaf_ok lf_12_37 h (xB6 (xRI_top _) ⟨by omega, by omega⟩ (xRI_top _) (xRI_top _) (xRI_top _) (xRI_top _)) hM hL
                                                                              · rcases Nat.lt_or_ge (xo (xs 1)) 2147483686 with g40 | g40
                                                                                · exact leaf_ok lf_12_38 h (xB6 (xRI_top _) ⟨by omega, by omega⟩ (xRI_top _) (xRI_top _) (xRI_top _) (xRI_top _)) hM hL
                                                                                · rcases Nat.lt_or_ge (xo (xs 1)) 2147483687 with g41 | g41
                                                                                  · exact leaf_ok lf_12_39 h (xB6 (xRI_top _) ⟨by omega, by omega⟩ (xRI_top _) (xRI_top _) (xRI_top _) (xRI_top _)) hM hL
                                                                                  · rcases Nat.lt_or_ge (xo (xs 1)) 2147483688 with g42 | g42
                                                                                    · exact leaf_ok lf_12_40 h (xB6 (xRI_top _) ⟨by omega, by omega⟩ (xRI_top _) (xRI_top _) (xRI_top _) (xRI_top _)) hM hL
                                                                                    · rcases Nat.lt_or_ge (xo (xs 1)) 2147483689 with g43 | g43
                                                                                      · exact leaf_ok lf_12_41 h (xB6 (xRI_top _) ⟨by omega, by omega⟩ (xRI_top _) (xRI_top _) (xRI_top _) (xRI_top _)) hM hL
                                                                                      · rcases Nat.lt_or_ge (xo (xs 1)) 2147483690 with g44 | g44
                                                                                        · exact leaf_ok lf_12_42 h (xB6 (xRI_top _) ⟨by omega, by omega⟩ (xRI_top _) (xRI_top _) (xRI_top _) (xRI_top _)) hM hL
                                                                                        · rcases Nat.lt_or_ge (xo (xs 1)) 2147483691 with g45 | g45
                                                                                          · exact leaf_ok lf_12_43 h (xB6 (xRI_top _) ⟨by omega, by omega⟩ (xRI_top _) (xRI_top _) (xRI_top _) (xRI_top _)) hM hL
                                                                                          · rcases Nat.lt_or_ge (xo (xs 1)) 2147483692 with g46 | g46
                                                                                            · exact leaf_ok lf_12_44 h (xB6 (xRI_top _) ⟨by omega, by omega⟩ (xRI_top _) (xRI_top _) (xRI_top _) (xRI_top _)) hM hL
                                                                                            · rcases Nat.lt_or_ge (xo (xs 1)) 2147483693 with g47 | g47
                                                                                              · exact leaf_ok lf_12_45 h (xB6 (xRI_top _) ⟨by omega, by omega⟩ (xRI_top _) (xRI_top _) (xRI_top _) (xRI_top _)) hM hL
                                                                                              · rcases Nat.lt_or_ge (xo (xs 1)) 2147483694 with g48 | g48
                                                                                                · exact leaf_ok lf_12_46 h (xB6 (xRI_top _) ⟨by omega, by omega⟩ (xRI_top _) (xRI_top _) (xRI_top _) (xRI_top _)) hM hL
                                                                                                · rcases Nat.lt_or_ge (xo (xs 1)) 2147483695 with g49 | g49
                                                                                                  · exact leaf_ok lf_12_47 h (xB6 (xRI_top _) ⟨by omega, by omega⟩ (xRI_top _) (xRI_top _) (xRI_top _) (xRI_top _)) hM hL
                                                                                                  · rcases Nat.lt_or_ge (xo (xs 1)) 2147483696 with g50 | g50
                                                                                                    · exact leaf_ok lf_12_48 h (xB6 (xRI_top _) ⟨by omega, by omega⟩ (xRI_top _) (xRI_top _) (xRI_top _) (xRI_top _)) hM hL
                                                                                                    · rcases Nat.lt_or_ge (xo (xs 1)) 2147483697 with g51 | g51
                                                                                                      · exact leaf_ok lf_12_49 h (xB6 (xRI_top _) ⟨by omega, by omega⟩ (xRI_top _) (xRI_top _) (xRI_top _) (xRI_top _)) hM hL
                                                                                                      · rcases Nat.lt_or_ge (xo (xs 1)) 2147483698 with g52 | g52
                                                                                                        · exact leaf_ok lf_12_50 h (xB6 (xRI_top _) ⟨by omega, by omega⟩ (xRI_top _) (xRI_top _) (xRI_top _) (xRI_top _)) hM hL
                                                                                                        · rcases Nat.lt_or_ge (xo (xs 1)) 2147483699 with g53 | g53
                                                                                                          · exact leaf_ok lf_12_51 h (xB6 (xRI_top _) ⟨by omega, by omega⟩ (xRI_top _) (xRI_top _) (xRI_top _) (xRI_top _)) hM hL
                                                                                                          · rcases Nat.lt_or_ge (xo (xs 1)) 2147483700 with g54 | g54
                                                                                                            · exact leaf_ok lf_12_52 h (xB6 (xRI_top _) ⟨by omega, by omega⟩ (xRI_top _) (xRI_top _) (xRI_top _) (xRI_top _)) hM hL
                                                                                                            · rcases Nat.lt_or_ge (xo (xs 1)) 2147483701 with g55 | g55
                                                                                                              · exact leaf_ok lf_12_53 h (xB6 (xRI_top _) ⟨by omega, by omega⟩ (xRI_top _) (xRI_top _) (xRI_top _) (xRI_top _)) hM hL
                                                                                                              · rcases Nat.lt_or_ge (xo (xs 1)) 2147483702 with g56 | g56
                                                                                                                · exact leaf_ok lf_12_54 h (xB6 (xRI_top _) ⟨by omega, by omega⟩ (xRI_top _) (xRI_top _) (xRI_top _) (xRI_top _)) hM hL
                                                                                                                · rcases Nat.lt_or_ge (xo (xs 1)) 2147483703 with g57 | g57
                                                                                                                  · exact leaf_ok lf_12_55 h (xB6 (xRI_top _) ⟨by omega, by omega⟩ (xRI_top _) (xRI_top _) (xRI_top _) (xRI_top _)) hM hL
                                                                                                                  · rcases Nat.lt_or_ge (xo (xs 1)) 2147483704 with g58 | g58
                                                                                                                    · exact leaf_ok lf_12_56 h (xB6 (xRI_top _) ⟨by omega, by omega⟩ (xRI_top _) (xRI_top _) (xRI_top _) (xRI_top _)) hM hL
                                                                                                                    · rcases Nat.lt_or_ge (xo (xs 1)) 2147483705 with g59 | g59
                                                                                                                      · exact leaf_ok lf_12_57 h (xB6 (xRI_top _) ⟨by omega, by omega⟩ (xRI_top _) (xRI_top _) (xRI_top _) (xRI_top _)) hM hL
                                                                                                                      · rcases Nat.lt_or_ge (xo (xs 1)) 2147483706 with g60 | g60
                                                                                                                        · exact leaf_ok lf_12_58 h (xB6 (xRI_top _) ⟨by omega, by omega⟩ (xRI_top _) (xRI_top _) (xRI_top _) (xRI_top _)) hM hL
                                                                                                                        · rcases Nat.lt_or_ge (xo (xs 1)) 2147483707 with g61 | g61
                                                                                                                          · exact leaf_ok lf_12_59 h (xB6 (xRI_top _) ⟨by omega, by omega⟩ (xRI_top _) (xRI_top _) (xRI_top _) (xRI_top _)) hM hL
                                                                                                                          · rcases Nat.lt_or_ge (xo (xs 1)) 2147483708 with g62 | g62
                                                                                                                            · exact leaf_ok lf_12_60 h (xB6 (xRI_top _) ⟨by omega, by omega⟩ (xRI_top _) (xRI_top _) (xRI_top _) (xRI_top _)) hM hL
                                                                                                                            · exact leaf_ok lf_12_61 h (xB6 (xRI_top _) ⟨by omega, by omega⟩ (xRI_top _) (xRI_top _) (xRI_top _) (xRI_top _)) hM hL
    · exact leaf_ok lf_12_62 h (xB6 (xRI_top _) ⟨by omega, by omega⟩ (xRI_top _) (xRI_top _) (xRI_top _) (xRI_top _)) hM hL
set_option maxRecDepth 100000 in
set_option maxHeartbeats 4000000 in
theorem case_13 {p : Program} {l : Launch} {e : Env} {s : State} {m : MethodId} {below : List Frame} {meth : Method} {c : Code} {b : Nat} {xs : Nat → Int32} {D : va_G} {tys : List (ClassId × FieldType)} {ls : Array Slot} {H : Heap} {locs : List Loc} {cells slots : Nat} (h : xLw p s m meth c b 6 xs D tys) (hM : xMem D tys s.heap.size b s 0 0 xw1 H locs cells slots) (hL : xRL s.heap.size b xL1 ls 4) : W p l e room_1 s m #[Value.ref b] below meth c H locs cells slots (lw_Z below #[Value.ref b] s) (F0 m 617 ls []) := by
  exact leaf_ok lf_13_0 h (xB6 (xRI_top _) (xRI_top _) (xRI_top _) (xRI_top _) (xRI_top _) (xRI_top _)) hM hL
set_option maxRecDepth 100000 in
set_option maxHeartbeats 4000000 in
theorem case_14 {p : Program} {l : Launch} {e : Env} {s : State} {m : MethodId} {below : List Frame} {meth : Method} {c : Code} {b : Nat} {xs : Nat → Int32} {D : va_G} {tys : List (ClassId × FieldType)} {ls : Array Slot} {H : Heap} {locs : List Loc} {cells slots : Nat} (h : xLw p s m meth c b 6 xs D tys) (hM : xMem D tys s.heap.size b s 0 0 xw1 H locs cells slots) (hL : xRL s.heap.size b xL1 ls 4) : W p l e room_1 s m #[Value.ref b] below meth c H locs cells slots (lw_Z below #[Value.ref b] s) (F0 m 630 ls []) := by
  have hb1 := xo_lt (xs 1)
  rcases Nat.lt_or_ge (xo (xs 1)) 2147483648 with g1 | g1
  · exact leaf_ok lf_14_0 h (xB6 (xRI_top _) ⟨by omega, by omega⟩ (xRI_top _) (xRI_top _) (xRI_top _) (xRI_top _)) hM hL
  · exact leaf_ok lf_14_1 h (xB6 (xRI_top _) ⟨by omega, by omega⟩ (xRI_top _) (xRI_top _) (xRI_top _) (xRI_top _)) hM hL
set_option maxRecDepth 100000 in
set_option maxHeartbeats 4000000 in
theorem case_15 {p : Program} {l : Launch} {e : Env} {s : State} {m : MethodId} {below : List Frame} {meth : Method} {c : Code} {b : Nat} {xs : Nat → Int32} {D : va_G} {tys : List (ClassId × FieldType)} {ls : Array Slot} {H : Heap} {locs : List Loc} {cells slots : Nat} (h : xLw p s m meth c b 6 xs D tys) (hM : xMem D tys s.heap.size b s 0 0 xw1 H locs cells slots) (hL : xRL s.heap.size b xL1 ls 4) : W p l e room_1 s m #[Value.ref b] below meth c H locs cells slots (lw_Z below #[Value.ref b] s) (F0 m 663 ls []) := by
  have hb1 := xo_lt (xs 1)
  rcases Nat.lt_or_ge (xo (xs 1)) 2147483648 with g1 | g1
  · exact leaf_ok lf_15_0 h (xB6 (xRI_top _) ⟨by omega, by omega⟩ (xRI_top _) (xRI_top _) (xRI_top _) (xRI_top _)) hM hL
  · rcases Nat.lt_or_ge (xo (xs 1)) 2147483650 with g2 | g2
    · rcases Nat.lt_or_ge (xo (xs 1)) 2147483649 with g3 | g3
      · exact leaf_ok lf_15_1 h (xB6 (xRI_top _) ⟨by omega, by omega⟩ (xRI_top _) (xRI_top _) (xRI_top _) (xRI_top _)) hM hL
      · exact leaf_ok lf_15_2 h (xB6 (xRI_top _) ⟨by omega, by omega⟩ (xRI_top _) (xRI_top _) (xRI_top _) (xRI_top _)) hM hL
    · exact leaf_ok lf_15_3 h (xB6 (xRI_top _) ⟨by omega, by omega⟩ (xRI_top _) (xRI_top _) (xRI_top _) (xRI_top _)) hM hL
set_option maxRecDepth 100000 in
set_option maxHeartbeats 4000000 in
theorem case_16 {p : Program} {l : Launch} {e : Env} {s : State} {m : MethodId} {below : List Frame} {meth : Method} {c : Code} {b : Nat} {xs : Nat → Int32} {D : va_G} {tys : List (ClassId × FieldType)} {ls : Array Slot} {H : Heap} {locs : List Loc} {cells slots : Nat} (h : xLw p s m meth c b 6 xs D tys) (hM : xMem D tys s.heap.size b s 0 0 xw1 H locs cells slots) (hL : xRL s.heap.size b xL1 ls 4) : W p l e room_1 s m #[Value.ref b] below meth c H locs cells slots (lw_Z below #[Value.ref b] s) (F0 m 686 ls []) := by
  have hb1 := xo_lt (xs 1)
  rcases Nat.lt_or_ge (xo (xs 1)) 2147483648 with g1 | g1
  · exact leaf_ok lf_16_0 h (xB6 (xRI_top _) ⟨by omega, by omega⟩ (xRI_top _) (xRI_top _) (xRI_top _) (xRI_top _)) hM hL
  · exact leaf_ok lf_16_1 h (xB6 (xRI_top _) ⟨by omega, by omega⟩ (xRI_top _) (xRI_top _) (xRI_top _) (xRI_top _)) hM hL
set_option maxRecDepth 100000 in
set_option maxHeartbeats 4000000 in
theorem case_17 {p : Program} {l : Launch} {e : Env} {s : State} {m : MethodId} {below : List Frame} {meth : Method} {c : Code} {b : Nat} {xs : Nat → Int32} {D : va_G} {tys : List (ClassId × FieldType)} {ls : Array Slot} {H : Heap} {locs : List Loc} {cells slots : Nat} (h : xLw p s m meth c b 6 xs D tys) (hM : xMem D tys s.heap.size b s 0 0 xw1 H locs cells slots) (hL : xRL s.heap.size b xL1 ls 4) : W p l e room_1 s m #[Value.ref b] below meth c H locs cells slots (lw_Z below #[Value.ref b] s) (F0 m 719 ls []) := by
  have hb1 := xo_lt (xs 1)
  rcases Nat.lt_or_ge (xo (xs 1)) 2147483648 with g1 | g1
  · exact leaf_ok lf_17_0 h (xB6 (xRI_top _) ⟨by omega, by omega⟩ (xRI_top _) (xRI_top _) (xRI_top _) (xRI_top _)) hM hL
  · rcases Nat.lt_or_ge (xo (xs 1)) 2147483650 with g2 | g2
    · rcases Nat.lt_or_ge (xo (xs 1)) 2147483649 with g3 | g3
      · exact leaf_ok lf_17_1 h (xB6 (xRI_top _) ⟨by omega, by omega⟩ (xRI_top _) (xRI_top _) (xRI_top _) (xRI_top _)) hM hL
      · exact leaf_ok lf_17_2 h (xB6 (xRI_top _) ⟨by omega, by omega⟩ (xRI_top _) (xRI_top _) (xRI_top _) (xRI_top _)) hM hL
    · exact leaf_ok lf_17_3 h (xB6 (xRI_top _) ⟨by omega, by omega⟩ (xRI_top _) (xRI_top _) (xRI_top _) (xRI_top _)) hM hL
set_option maxRecDepth 100000 in
set_option maxHeartbeats 4000000 in
theorem case_18 {p : Program} {l : Launch} {e : Env} {s : State} {m : MethodId} {below : List Frame} {meth : Method} {c : Code} {b : Nat} {xs : Nat → Int32} {D : va_G} {tys : List (ClassId × FieldType)} {ls : Array Slot} {H : Heap} {locs : List Loc} {cells slots : Nat} (h : xLw p s m meth c b 6 xs D tys) (hM : xMem D tys s.heap.size b s 0 0 xw1 H locs cells slots) (hL : xRL s.heap.size b xL1 ls 4) : W p l e room_1 s m #[Value.ref b] below meth c H locs cells slots (lw_Z below #[Value.ref b] s) (F0 m 742 ls []) := by
  have hb1 := xo_lt (xs 1)
  rcases Nat.lt_or_ge (xo (xs 1)) 2147483648 with g1 | g1
  · exact leaf_ok lf_18_0 h (xB6 (xRI_top _) ⟨by omega, by omega⟩ (xRI_top _) (xRI_top _) (xRI_top _) (xRI_top _)) hM hL
  · rcases Nat.lt_or_ge (xo (xs 1)) 2147483650 with g2 | g2
    · rcases Nat.lt_or_ge (xo (xs 1)) 2147483649 with g3 | g3
      · exact leaf_ok lf_18_1 h (xB6 (xRI_top _) ⟨by omega, by omega⟩ (xRI_top _) (xRI_top _) (xRI_top _) (xRI_top _)) hM hL
      · exact leaf_ok lf_18_2 h (xB6 (xRI_top _) ⟨by omega, by omega⟩ (xRI_top _) (xRI_top _) (xRI_top _) (xRI_top _)) hM hL
    · exact leaf_ok lf_18_3 h (xB6 (xRI_top _) ⟨by omega, by omega⟩ (xRI_top _) (xRI_top _) (xRI_top _) (xRI_top _)) hM hL
set_option maxRecDepth 100000 in
set_option maxHeartbeats 4000000 in
theorem case_19 {p : Program} {l : Launch} {e : Env} {s : State} {m : MethodId} {below : List Frame} {meth : Method} {c : Code} {b : Nat} {xs : Nat → Int32} {D : va_G} {tys : List (ClassId × FieldType)} {ls : Array Slot} {H : Heap} {locs : List Loc} {cells slots : Nat} (h : xLw p s m meth c b 6 xs D tys) (hM : xMem D tys s.heap.size b s 0 0 xw1 H locs cells slots) (hL : xRL s.heap.size b xL1 ls 4) : W p l e room_1 s m #[Value.ref b] below meth c H locs cells slots (lw_Z below #[Value.ref b] s) (F0 m 765 ls []) := by
  have hb1 := xo_lt (xs 1)
  rcases Nat.lt_or_ge (xo (xs 1)) 2147483648 with g1 | g1
  · exact leaf_ok lf_19_0 h (xB6 (xRI_top _) ⟨by omega, by omega⟩ (xRI_top _) (xRI_top _) (xRI_top _) (xRI_top _)) hM hL
  · exact leaf_ok lf_19_1 h (xB6 (xRI_top _) ⟨by omega, by omega⟩ (xRI_top _) (xRI_top _) (xRI_top _) (xRI_top _)) hM hL
set_option maxRecDepth 100000 in
set_option maxHeartbeats 4000000 in
theorem case_20 {p : Program} {l : Launch} {e : Env} {s : State} {m : MethodId} {below : List Frame} {meth : Method} {c : Code} {b : Nat} {xs : Nat → Int32} {D : va_G} {tys : List (ClassId × FieldType)} {ls : Array Slot} {H : Heap} {locs : List Loc} {cells slots : Nat} (h : xLw p s m meth c b 6 xs D tys) (hM : xMem D tys s.heap.size b s 0 0 xw1 H locs cells slots) (hL : xRL s.heap.size b xL1 ls 4) : W p l e room_1 s m #[Value.ref b] below meth c H locs cells slots (lw_Z below #[Value.ref b] s) (F0 m 798 ls []) := by
  have hb1 := xo_lt (xs 1)
  rcases Nat.lt_or_ge (xo (xs 1)) 2147483648 with g1 | g1
  · exact leaf_ok lf_20_0 h (xB6 (xRI_top _) ⟨by omega, by omega⟩ (xRI_top _) (xRI_top _) (xRI_top _) (xRI_top _)) hM hL
  · rcases Nat.lt_or_ge (xo (xs 1)) 2147483650 with g2 | g2
    · rcases Nat.lt_or_ge (xo (xs 1)) 2147483649 with g3 | g3
      · exact leaf_ok lf_20_1 h (xB6 (xRI_top _) ⟨by omega, by omega⟩ (xRI_top _) (xRI_top _) (xRI_top _) (xRI_top _)) hM hL
      · exact leaf_ok lf_20_2 h (xB6 (xRI_top _) ⟨by omega, by omega⟩ (xRI_top _) (xRI_top _) (xRI_top _) (xRI_top _)) hM hL
    · exact leaf_ok lf_20_3 h (xB6 (xRI_top _) ⟨by omega, by omega⟩ (xRI_top _) (xRI_top _) (xRI_top _) (xRI_top _)) hM hL
set_option maxRecDepth 100000 in
set_option maxHeartbeats 4000000 in
theorem case_21 {p : Program} {l : Launch} {e : Env} {s : State} {m : MethodId} {below : List Frame} {meth : Method} {c : Code} {b : Nat} {xs : Nat → Int32} {D : va_G} {tys : List (ClassId × FieldType)} {ls : Array Slot} {H : Heap} {locs : List Loc} {cells slots : Nat} (h : xLw p s m meth c b 6 xs D tys) (hM : xMem D tys s.heap.size b s 0 0 xw1 H locs cells slots) (hL : xRL s.heap.size b xL1 ls 4) : W p l e room_1 s m #[Value.ref b] below meth c H locs cells slots (lw_Z below #[Value.ref b] s) (F0 m 821 ls []) := by
  have hb1 := xo_lt (xs 1)
  rcases Nat.lt_or_ge (xo (xs 1)) 2147483648 with g1 | g1
  · exact leaf_ok lf_21_0 h (xB6 (xRI_top _) ⟨by omega, by omega⟩ (xRI_top _) (xRI_top _) (xRI_top _) (xRI_top _)) hM hL
  · rcases Nat.lt_or_ge (xo (xs 1)) 2147483904 with g2 | g2
    · exact leaf_ok lf_21_1 h (xB6 (xRI_top _) ⟨by omega, by omega⟩ (xRI_top _) (xRI_top _) (xRI_top _) (xRI_top _)) hM hL
    · exact leaf_ok lf_21_2 h (xB6 (xRI_top _) ⟨by omega, by omega⟩ (xRI_top _) (xRI_top _) (xRI_top _) (xRI_top _)) hM hL
set_option maxRecDepth 100000 in
set_option maxHeartbeats 4000000 in
theorem case_22 {p : Program} {l : Launch} {e : Env} {s : State} {m : MethodId} {below : List Frame} {meth : Method} {c : Code} {b : Nat} {xs : Nat → Int32} {D : va_G} {tys : List (ClassId × FieldType)} {ls : Array Slot} {H : Heap} {locs : List Loc} {cells slots : Nat} (h : xLw p s m meth c b 6 xs D tys) (hM : xMem D tys s.heap.size b s 0 0 xw1 H locs cells slots) (hL : xRL s.heap.size b xL1 ls 4) : W p l e room_1 s m #[Value.ref b] below meth c H locs cells slots (lw_Z below #[Value.ref b] s) (F0 m 844 ls []) := by
  have hb1 := xo_lt (xs 1)
  rcases Nat.lt_or_ge (xo (xs 1)) 2147483648 with g1 | g1
  · exact leaf_ok lf_22_0 h (xB6 (xRI_top _) ⟨by omega, by omega⟩ (xRI_top _) (xRI_top _) (xRI_top _) (xRI_top _)) hM hL
  · exact leaf_ok lf_22_1 h (xB6 (xRI_top _) ⟨by omega, by omega⟩ (xRI_top _) (xRI_top _) (xRI_top _) (xRI_top _)) hM hL
set_option maxRecDepth 100000 in
set_option maxHeartbeats 4000000 in
theorem case_23 {p : Program} {l : Launch} {e : Env} {s : State} {m : MethodId} {below : List Frame} {meth : Method} {c : Code} {b : Nat} {xs : Nat → Int32} {D : va_G} {tys : List (ClassId × FieldType)} {ls : Array Slot} {H : Heap} {locs : List Loc} {cells slots : Nat} (h : xLw p s m meth c b 6 xs D tys) (hM : xMem D tys s.heap.size b s 0 0 xw1 H locs cells slots) (hL : xRL s.heap.size b xL1 ls 4) : W p l e room_1 s m #[Value.ref b] below meth c H locs cells slots (lw_Z below #[Value.ref b] s) (F0 m 867 ls []) := by
  exact leaf_ok lf_23_0 h (xB6 (xRI_top _) (xRI_top _) (xRI_top _) (xRI_top _) (xRI_top _) (xRI_top _)) hM hL
set_option maxRecDepth 100000 in
set_option maxHeartbeats 4000000 in
theorem case_24 {p : Program} {l : Launch} {e : Env} {s : State} {m : MethodId} {below : List Frame} {meth : Method} {c : Code} {b : Nat} {xs : Nat → Int32} {D : va_G} {tys : List (ClassId × FieldType)} {ls : Array Slot} {H : Heap} {locs : List Loc} {cells slots : Nat} (h : xLw p s m meth c b 6 xs D tys) (hM : xMem D tys s.heap.size b s 0 0 xw1 H locs cells slots) (hL : xRL s.heap.size b xL1 ls 4) : W p l e room_1 s m #[Value.ref b] below meth c H locs cells slots (lw_Z below #[Value.ref b] s) (F0 m 880 ls []) := by
  have hb1 := xo_lt (xs 1)
  rcases Nat.lt_or_ge (xo (xs 1)) 2147483648 with g1 | g1
  · exact leaf_ok lf_24_0 h (xB6 (xRI_top _) ⟨by omega, by omega⟩ (xRI_top _) (xRI_top _) (xRI_top _) (xRI_top _)) hM hL
  · exact leaf_ok lf_24_1 h (xB6 (xRI_top _) ⟨by omega, by omega⟩ (xRI_top _) (xRI_top _) (xRI_top _) (xRI_top _)) hM hL
set_option maxRecDepth 100000 in
set_option maxHeartbeats 4000000 in
theorem case_25 {p : Program} {l : Launch} {e : Env} {s : State} {m : MethodId} {below : List Frame} {meth : Method} {c : Code} {b : Nat} {xs : Nat → Int32} {D : va_G} {tys : List (ClassId × FieldType)} {ls : Array Slot} {H : Heap} {locs : List Loc} {cells slots : Nat} (h : xLw p s m meth c b 6 xs D tys) (hM : xMem D tys s.heap.size b s 0 0 xw1 H locs cells slots) (hL : xRL s.heap.size b xL1 ls 4) : W p l e room_1 s m #[Value.ref b] below meth c H locs cells slots (lw_Z below #[Value.ref b] s) (F0 m 913 ls []) := by
  have hb1 := xo_lt (xs 1)
  rcases Nat.lt_or_ge (xo (xs 1)) 2147483648 with g1 | g1
  · exact leaf_ok lf_25_0 h (xB6 (xRI_top _) ⟨by omega, by omega⟩ (xRI_top _) (xRI_top _) (xRI_top _) (xRI_top _)) hM hL
  · exact leaf_ok lf_25_1 h (xB6 (xRI_top _) ⟨by omega, by omega⟩ (xRI_top _) (xRI_top _) (xRI_top _) (xRI_top _)) hM hL
set_option maxRecDepth 100000 in
set_option maxHeartbeats 4000000 in
theorem case_26 {p : Program} {l : Launch} {e : Env} {s : State} {m : MethodId} {below : List Frame} {meth : Method} {c : Code} {b : Nat} {xs : Nat → Int32} {D : va_G} {tys : List (ClassId × FieldType)} {ls : Array Slot} {H : Heap} {locs : List Loc} {cells slots : Nat} (h : xLw p s m meth c b 6 xs D tys) (hM : xMem D tys s.heap.size b s 0 0 xw1 H locs cells slots) (hL : xRL s.heap.size b xL1 ls 4) : W p l e room_1 s m #[Value.ref b] below meth c H locs cells slots (lw_Z below #[Value.ref b] s) (F0 m 966 ls []) := by
  have hb1 := xo_lt (xs 1)
  rcases Nat.lt_or_ge (xo (xs 1)) 2147483648 with g1 | g1
  · exact leaf_ok lf_26_0 h (xB6 (xRI_top _) ⟨by omega, by omega⟩ (xRI_top _) (xRI_top _) (xRI_top _) (xRI_top _)) hM hL
  · rcases Nat.lt_or_ge (xo (xs 1)) 2147483709 with g2 | g2
    · rcases Nat.lt_or_ge (xo (xs 1)) 2147483649 with g3 | g3
      · exact leaf_ok lf_26_1 h (xB6 (xRI_top _) ⟨by omega, by omega⟩ (xRI_top _) (xRI_top _) (xRI_top _) (xRI_top _)) hM hL
      · rcases Nat.lt_or_ge (xo (xs 1)) 2147483650 with g4 | g4
        · exact leaf_ok lf_26_2 h (xB6 (xRI_top _) ⟨by omega, by omega⟩ (xRI_top _) (xRI_top _) (xRI_top _) (xRI_top _)) hM hL
        · rcases Nat.lt_or_ge (xo (xs 1)) 2147483651 with g5 | g5
          · exact leaf_ok lf_26_3 h (xB6 (xRI_top _) ⟨by omega, by omega⟩ (xRI_top _) (xRI_top _) (xRI_top _) (xRI_top _)) hM hL
          · rcases Nat.lt_or_ge (xo (xs 1)) 2147483652 with g6 | g6
            · exact leaf_ok lf_26_4 h (xB6 (xRI_top _) ⟨by omega, by omega⟩ (xRI_top _) (xRI_top _) (xRI_top _) (xRI_top _)) hM hL
            · rcases Nat.lt_or_ge (xo (xs 1)) 2147483653 with g7 | g7
              · exact leaf_ok lf_26_5 h (xB6 (xRI_top _) ⟨by omega, by omega⟩ (xRI_top _) (xRI_top _) (xRI_top _) (xRI_top _)) hM hL
              · rcases Nat.lt_or_ge (xo (xs 1)) 2147483654 with g8 | g8
                · exact leaf_ok lf_26_6 h (xB6 (xRI_top _) ⟨by omega, by omega⟩ (xRI_top _) (xRI_top _) (xRI_top _) (xRI_top _)) hM hL
                · rcases Nat.lt_or_ge (xo (xs 1)) 2147483655 with g9 | g9
                  · exact leaf_ok lf_26_7 h (xB6 (xRI_top _) ⟨by omega, by omega⟩ (xRI_top _) (xRI_top _) (xRI_top _) (xRI_top _)) hM hL
                  · rcases Nat.lt_or_ge (xo (xs 1)) 2147483656 with g10 | g10
                    · exact leaf_ok lf_26_8 h (xB6 (xRI_top _) ⟨by omega, by omega⟩ (xRI_top _) (xRI_top _) (xRI_top _) (xRI_top _)) hM hL
                    · rcases Nat.lt_or_ge (xo (xs 1)) 2147483657 with g11 | g11
                      · exact leaf_ok lf_26_9 h (xB6 (xRI_top _) ⟨by omega, by omega⟩ (xRI_top _) (xRI_top _) (xRI_top _) (xRI_top _)) hM hL
                      · rcases Nat.lt_or_ge (xo (xs 1)) 2147483658 with g12 | g12
                        · exact leaf_ok lf_26_10 h (xB6 (xRI_top _) ⟨by omega, by omega⟩ (xRI_top _) (xRI_top _) (xRI_top _) (xRI_top _)) hM hL
                        · rcases Nat.lt_or_ge (xo (xs 1)) 2147483659 with g13 | g13
                          · exact leaf_ok lf_26_11 h (xB6 (xRI_top _) ⟨by omega, by omega⟩ (xRI_top _) (xRI_top _) (xRI_top _) (xRI_top _)) hM hL
                          · rcases Nat.lt_or_ge (xo (xs 1)) 2147483660 with g14 | g14
                            · exact leaf_ok lf_26_12 h (xB6 (xRI_top _) ⟨by omega, by omega⟩ (xRI_top _) (xRI_top _) (xRI_top _) (xRI_top _)) hM hL
                            · rcases Nat.lt_or_ge (xo (xs 1)) 2147483661 with g15 | g15
                              · exact leaf_ok lf_26_13 h (xB6 (xRI_top _) ⟨by omega, by omega⟩ (xRI_top _) (xRI_top _) (xRI_top _) (xRI_top _)) hM hL
                              · rcases Nat.lt_or_ge (xo (xs 1)) 2147483662 with g16 | g16
                                · exact leaf_ok lf_26_14 h (xB6 (xRI_top _) ⟨by omega, by omega⟩ (xRI_top _) (xRI_top _) (xRI_top _) (xRI_top _)) hM hL
                                · rcases Nat.lt_or_ge (xo (xs 1)) 2147483663 with g17 | g17
                                  · exact leaf_ok lf_26_15 h (xB6 (xRI_top _) ⟨by omega, by omega⟩ (xRI_top _) (xRI_top _) (xRI_top _) (xRI_top _)) hM hL
                                  · rcases Nat.lt_or_ge (xo (xs 1)) 2147483664 with g18 | g18
                                    · exact leaf_ok lf_26_16 h (xB6 (xRI_top _) ⟨by omega, by omega⟩ (xRI_top _) (xRI_top _) (xRI_top _) (xRI_top _)) hM hL
                                    · rcases Nat.lt_or_ge (xo (xs 1)) 2147483665 with g19 | g19
                                      · exact leaf_ok lf_26_17 h (xB6 (xRI_top _) ⟨by omega, by omega⟩ (xRI_top _) (xRI_top _) (xRI_top _) (xRI_top _)) hM hL
                                      · rcases Nat.lt_or_ge (xo (xs 1)) 2147483666 with g20 | g20
                                        · exact leaf_ok lf_26_18 h (xB6 (xRI_top _) ⟨by omega, by omega⟩ (xRI_top _) (xRI_top _) (xRI_top _) (xRI_top _)) hM hL
                                        · rcases Nat.lt_or_ge (xo (xs 1)) 2147483667 with g21 | g21
                                          · exact leaf_ok lf_26_19 h (xB6 (xRI_top _) ⟨by omega, by omega⟩ (xRI_top _) (xRI_top _) (xRI_top _) (xRI_top _)) hM hL
                                          · rcases Nat.lt_or_ge (xo (xs 1)) 2147483668 with g22 | g22
                                            · exact leaf_ok lf_26_20 h (xB6 (xRI_top _) ⟨by omega, by omega⟩ (xRI_top _) (xRI_top _) (xRI_top _) (xRI_top _)) hM hL
                                            · rcases Nat.lt_or_ge (xo (xs 1)) 2147483669 with g23 | g23
                                              · exact leaf_ok lf_26_21 h (xB6 (xRI_top _) ⟨by omega, by omega⟩ (xRI_top _) (xRI_top _) (xRI_top _) (xRI_top _)) hM hL
                                              · rcases Nat.lt_or_ge (xo (xs 1)) 2147483670 with g24 | g24
                                                · exact leaf_ok lf_26_22 h (xB6 (xRI_top _) ⟨by omega, by omega⟩ (xRI_top _) (xRI_top _) (xRI_top _) (xRI_top _)) hM hL
                                                · rcases Nat.lt_or_ge (xo (xs 1)) 2147483671 with g25 | g25
                                                  · exact leaf_ok lf_26_23 h (xB6 (xRI_top _) ⟨by omega, by omega⟩ (xRI_top _) (xRI_top _) (xRI_top _) (xRI_top _)) hM hL
                                                  · rcases Nat.lt_or_ge (xo (xs 1)) 2147483672 with g26 | g26
                                                    · exact leaf_ok lf_26_24 h (xB6 (xRI_top _) ⟨by omega, by omega⟩ (xRI_top _) (xRI_top _) (xRI_top _) (xRI_top _)) hM hL
                                                    · rcases Nat.lt_or_ge (xo (xs 1)) 2147483673 with g27 | g27
                                                      · exact leaf_ok lf_26_25 h (xB6 (xRI_top _) ⟨by omega, by omega⟩ (xRI_top _) (xRI_top _) (xRI_top _) (xRI_top _)) hM hL
                                                      · rcases Nat.lt_or_ge (xo (xs 1)) 2147483674 with g28 | g28
                                                        · exact leaf_ok lf_26_26 h (xB6 (xRI_top _) ⟨by omega, by omega⟩ (xRI_top _) (xRI_top _) (xRI_top _) (xRI_top _)) hM hL
                                                        · rcases Nat.lt_or_ge (xo (xs 1)) 2147483675 with g29 | g29
                                                          · exact leaf_ok lf_26_27 h (xB6 (xRI_top _) ⟨by omega, by omega⟩ (xRI_top _) (xRI_top _) (xRI_top _) (xRI_top _)) hM hL
                                                          · rcases Nat.lt_or_ge (xo (xs 1)) 2147483676 with g30 | g30
                                                            · exact leaf_ok lf_26_28 h (xB6 (xRI_top _) ⟨by omega, by omega⟩ (xRI_top _) (xRI_top _) (xRI_top _) (xRI_top _)) hM hL
                                                            · rcases Nat.lt_or_ge (xo (xs 1)) 2147483677 with g31 | g31
                                                              · exact leaf_ok lf_26_29 h (xB6 (xRI_top _) ⟨by omega, by omega⟩ (xRI_top _) (xRI_top _) (xRI_top _) (xRI_top _)) hM hL
                                                              · rcases Nat.lt_or_ge (xo (xs 1)) 2147483678 with g32 | g32
                                                                · exact leaf_ok lf_26_30 h (xB6 (xRI_top _) ⟨by omega, by omega⟩ (xRI_top _) (xRI_top _) (xRI_top _) (xRI_top _)) hM hL
                                                                · rcases Nat.lt_or_ge (xo (xs 1)) 2147483679 with g33 | g33
                                                                  · exact leaf_ok lf_26_31 h (xB6 (xRI_top _) ⟨by omega, by omega⟩ (xRI_top _) (xRI_top _) (xRI_top _) (xRI_top _)) hM hL
                                                                  · rcases Nat.lt_or_ge (xo (xs 1)) 2147483680 with g34 | g34
                                                                    · exact leaf_ok lf_26_32 h (xB6 (xRI_top _) ⟨by omega, by omega⟩ (xRI_top _) (xRI_top _) (xRI_top _) (xRI_top _)) hM hL
                                                                    · rcases Nat.lt_or_ge (xo (xs 1)) 2147483681 with g35 | g35
                                                                      · exact leaf_ok lf_26_33 h (xB6 (xRI_top _) ⟨by omega, by omega⟩ (xRI_top _) (xRI_top _) (xRI_top _) (xRI_top _)) hM hL
                                                                      · rcases Nat.lt_or_ge (xo (xs 1)) 2147483682 with g36 | g36
                                                                        · exact leaf_ok lf_26_34 h (xB6 (xRI_top _) ⟨by omega, by omega⟩ (xRI_top _) (xRI_top _) (xRI_top _) (xRI_top _)) hM hL
                                                                        · rcases Nat.lt_or_ge (xo (xs 1)) 2147483683 with g37 | g37
                                                                          · exact leaf_ok lf_26_35 h (xB6 (xRI_top _) ⟨by omega, by omega⟩ (xRI_top _) (xRI_top _) (xRI_top _) (xRI_top _)) hM hL
                                                                          · rcases Nat.lt_or_ge (xo (xs 1)) 2147483684 with g38 | g38
                                                                            · exact leaf_ok lf_26_36 h (xB6 (xRI_top _) ⟨by omega, by omega⟩ (xRI_top _) (xRI_top _) (xRI_top _) (xRI_top _)) hM hL
                                                                            · rcases Nat.lt_or_ge (xo (xs 1)) 2147483685 with g39 | g39
                                                                              · exact leaf_ok lf_26_37 h (xB6 (xRI_top _) ⟨by omega, by omega⟩ (xRI_top _) (xRI_top _) (xRI_top _) (xRI_top _)) hM hL
                                                                              · rcases Nat.lt_or_ge (xo (xs 1)) 2147483686 with g40 | g40
                                                                                · exact leaf_ok lf_26_38 h (xB6 (xRI_top _) ⟨by omega, by omega⟩ (xRI_top _) (xRI_top _) (xRI_top _) (xRI_top _)) hM hL
                                                                                · rcases Nat.lt_or_ge (xo (xs 1)) 2147483687 with g41 | g41
                                                                                  · exact leaf_ok lf_26_39 h (xB6 (xRI_top _) ⟨by omega, by omega⟩ (xRI_top _) (xRI_top _) (xRI_top _) (xRI_top _)) hM hL
                                                                                  · rcases Nat.lt_or_ge (xo (xs 1)) 2147483688 with g42 | g42
                                                                                    · exact leaf_ok lf_26_40 h (xB6 (xRI_top _) ⟨by omega, by omega⟩ (xRI_top _) (xRI_top _) (xRI_top _) (xRI_top _)) hM hL
                                                                                    · rcases Nat.lt_or_ge (xo (xs 1)) 2147483689 with g43 | g43
                                                                                      · exact leaf_ok lf_26_41 h (xB6 (xRI_top _) ⟨by omega, by omega⟩ (xRI_top _) (xRI_top _) (xRI_top _) (xRI_top _)) hM hL
                                                                                      · rcases Nat.lt_or_ge (xo (xs 1)) 2147483690 with g44 | g44
                                                                                        · exact leaf_ok lf_26_42 h (xB6 (xRI_top _) ⟨by omega, by omega⟩ (xRI_top _) (xRI_top _) (xRI_top _) (xRI_top _)) hM hL
                                                                                        · rcases Nat.lt_or_ge (xo (xs 1)) 2147483691 with g45 | g45
                                                                                          · exact leaf_ok lf_26_43 h (xB6 (xRI_top _) ⟨by omega, by omega⟩ (xRI_top _) (xRI_top _) (xRI_top _) (xRI_top _)) hM hL
                                                                                          · rcases Nat.lt_or_ge (xo (xs 1)) 2147483692 with g46 | g46
                                                                                            · exact leaf_ok lf_26_44 h (xB6 (xRI_top _) ⟨by omega, by omega⟩ (xRI_top _) (xRI_top _) (xRI_top _) (xRI_top _)) hM hL
                                                                                            · rcases Nat.lt_or_ge (xo (xs 1)) 2147483693 with g47 | g47
                                                                                              · exact leaf_ok lf_26_45 h (xB6 (xRI_top _) ⟨by omega, by omega⟩ (xRI_top _) (xRI_top _) (xRI_top _) (xRI_top _)) hM hL
                                                                                              · rcases Nat.lt_or_ge (xo (xs 1)) 2147483694 with g48 | g48
                                                                                                · exact leaf_ok lf_26_46 h (xB6 (xRI_top _) ⟨by omega, by omega⟩ (xRI_top _) (xRI_top _) (xRI_top _) (xRI_top _)) hM hL
                                                                                                · rcases Nat.lt_or_ge (xo (xs 1)) 2147483695 with g49 | g49
                                                                                                  · exact leaf_ok lf_26_47 h (xB6 (xRI_top _) ⟨by omega, by omega⟩ (xRI_top _) (xRI_top _) (xRI_top _) (xRI_top _)) hM hL
                                                                                                  · rcases Nat.lt_or_ge (xo (xs 1)) 2147483696 with g50 | g50
                                                                                                    · exact leaf_ok lf_26_48 h (xB6 (xRI_top _) ⟨by omega, by omega⟩ (xRI_top _) (xRI_top _) (xRI_top _) (xRI_top _)) hM hL
                                                                                                    · rcases Nat.lt_or_ge (xo (xs 1)) 2147483697 with g51 | g51
                                                                                                      · exact leaf_ok lf_26_49 h (xB6 (xRI_top _) ⟨by omega, by omega⟩ (xRI_top _) (xRI_top _) (xRI_top _) (xRI_top _)) hM hL
                                                                                                      · rcases Nat.lt_or_ge (xo (xs 1)) 2147483698 with g52 | g52
                                                                                                        · exact leaf_ok lf_26_50 h (xB6 (xRI_top _) ⟨by omega, by omega⟩ (xRI_top _) (xRI_top _) (xRI_top _) (xRI_top _)) hM hL
                                                                                                        · rcases Nat.lt_or_ge (xo (xs 1)) 2147483699 with g53 | g53
                                                                                                          · exact leaf_ok lf_26_51 h (xB6 (xRI_top _) ⟨by omega, by omega⟩ (xRI_top _) (xRI_top _) (xRI_top _) (xRI_top _)) hM hL
                                                                                                          · rcases Nat.lt_or_ge (xo (xs 1)) 2147483700 with g54 | g54
                                                                                                            · exact leaf_ok lf_26_52 h (xB6 (xRI_top _) ⟨by omega, by omega⟩ (xRI_top _) (xRI_top _) (xRI_top _) (xRI_top _)) hM hL
                                                                                                            · rcases Nat.lt_or_ge (xo (xs 1)) 2147483701 with g55 | g55
                                                                                                              · exact leaf_ok lf_26_53 h (xB6 (xRI_top _) ⟨by omega, by omega⟩ (xRI_top _) (xRI_top _) (xRI_top _) (xRI_top _)) hM hL
                                                                                                              · rcases Nat.lt_or_ge (xo (xs 1)) 2147483702 with g56 | g56
                                                                                                                · exact leaf_ok lf_26_54 h (xB6 (xRI_top _) ⟨by omega, by omega⟩ (xRI_top _) (xRI_top _) (xRI_top _) (xRI_top _)) hM hL
                                                                                                                · rcases Nat.lt_or_ge (xo (xs 1)) 2147483703 with g57 | g57
                                                                                                                  · exact leaf_ok lf_26_55 h (xB6 (xRI_top _) ⟨by omega, by omega⟩ (xRI_top _) (xRI_top _) (xRI_top _) (xRI_top _)) hM hL
                                                                                                                  · rcases Nat.lt_or_ge (xo (xs 1)) 2147483704 with g58 | g58
                                                                                                                    · exact leaf_ok lf_26_56 h (xB6 (xRI_top _) ⟨by omega, by omega⟩ (xRI_top _) (xRI_top _) (xRI_top _) (xRI_top _)) hM hL
                                                                                                                    · rcases Nat.lt_or_ge (xo (xs 1)) 2147483705 with g59 | g59
                                                                                                                      · exact leaf_ok lf_26_57 h (xB6 (xRI_top _) ⟨by omega, by omega⟩ (xRI_top _) (xRI_top _) (xRI_top _) (xRI_top _)) hM hL
                                                                                                                      · rcases Nat.lt_or_ge (xo (xs 1)) 2147483706 with g60 | g60
                                                                                                                        · exact leaf_ok lf_26_58 h (xB6 (xRI_top _) ⟨by omega, by omega⟩ (xRI_top _) (xRI_top _) (xRI_top _) (xRI_top _)) hM hL
                                                                                                                        · rcases Nat.lt_or_ge (xo (xs 1)) 2147483707 with g61 | g61
                                                                                                                          · exact leaf_ok lf_26_59 h (xB6 (xRI_top _) ⟨by omega, by omega⟩ (xRI_top _) (xRI_top _) (xRI_top _) (xRI_top _)) hM hL
                                                                                                                          · rcases Nat.lt_or_ge (xo (xs 1)) 2147483708 with g62 | g62
                                                                                                                            · exact leaf_ok lf_26_60 h (xB6 (xRI_top _) ⟨by omega, by omega⟩ (xRI_top _) (xRI_top _) (xRI_top _) (xRI_top _)) hM hL
                                                                                                                            · exact leaf_ok lf_26_61 h (xB6 (xRI_top _) ⟨by omega, by omega⟩ (xRI_top _) (xRI_top _) (xRI_top _) (xRI_top _)) hM hL
    · exact leaf_ok lf_26_62 h (xB6 (xRI_top _) ⟨by omega, by omega⟩ (xRI_top _) (xRI_top _) (xRI_top _) (xRI_top _)) hM hL
set_option maxRecDepth 100000 in
set_option maxHeartbeats 4000000 in
theorem case_27 {p : Program} {l : Launch} {e : Env} {s : State} {m : MethodId} {below : List Frame} {meth : Method} {c : Code} {b : Nat} {xs : Nat → Int32} {D : va_G} {tys : List (ClassId × FieldType)} {ls : Array Slot} {H : Heap} {locs : List Loc} {cells slots : Nat} (h : xLw p s m meth c b 6 xs D tys) (hM : xMem D tys s.heap.size b s 0 0 xw1 H locs cells slots) (hL : xRL s.heap.size b xL1 ls 4) : W p l e room_1 s m #[Value.ref b] below meth c H locs cells slots (lw_Z below #[Value.ref b] s) (F0 m 989 ls []) := by
  have hb1 := xo_lt (xs 1)
  rcases Nat.lt_or_ge (xo (xs 1)) 2147483648 with g1 | g1
  · exact leaf_ok lf_27_0 h (xB6 (xRI_top _) ⟨by omega, by omega⟩ (xRI_top _) (xRI_top _) (xRI_top _) (xRI_top _)) hM hL
  · exact leaf_ok lf_27_1 h (xB6 (xRI_top _) ⟨by omega, by omega⟩ (xRI_top _) (xRI_top _) (xRI_top _) (xRI_top _)) hM hL
set_option maxRecDepth 100000 in
set_option maxHeartbeats 4000000 in
theorem case_28 {p : Program} {l : Launch} {e : Env} {s : State} {m : MethodId} {below : List Frame} {meth : Method} {c : Code} {b : Nat} {xs : Nat → Int32} {D : va_G} {tys : List (ClassId × FieldType)} {ls : Array Slot} {H : Heap} {locs : List Loc} {cells slots : Nat} (h : xLw p s m meth c b 6 xs D tys) (hM : xMem D tys s.heap.size b s 0 0 xw1 H locs cells slots) (hL : xRL s.heap.size b xL1 ls 4) : W p l e room_1 s m #[Value.ref b] below meth c H locs cells slots (lw_Z below #[Value.ref b] s) (F0 m 1042 ls []) := by
  have hb1 := xo_lt (xs 1)
  have hb2 := xo_lt (xs 2)
  have hb3 := xo_lt (xs 3)
  rcases Nat.lt_or_ge (xo (xs 3)) 2147483648 with g1 | g1
  · rcases Nat.lt_or_ge (xo (xs 1)) 2147483648 with g2 | g2
    · exact leaf_ok lf_28_0 h (xB6 (xRI_top _) ⟨by omega, by omega⟩ (xRI_top _) ⟨by omega, by omega⟩ (xRI_top _) (xRI_top _)) hM hL
    · rcases Nat.lt_or_ge (xo (xs 1)) 2147483656 with g3 | g3
      · rcases Nat.lt_or_ge (xo (xs 2)) 2147483648 with g4 | g4
        · exact leaf_ok lf_28_1 h (xB6 (xRI_top _) ⟨by omega, by omega⟩ ⟨by omega, by omega⟩ ⟨by omega, by omega⟩ (xRI_top _) (xRI_top _)) hM hL
        · rcases Nat.lt_or_ge (xo (xs 2)) 2147484648 with g5 | g5
          · exact leaf_ok lf_28_2 h (xB6 (xRI_top _) ⟨by omega, by omega⟩ ⟨by omega, by omega⟩ ⟨by omega, by omega⟩ (xRI_top _) (xRI_top _)) hM hL
          · exact leaf_ok lf_28_3 h (xB6 (xRI_top _) ⟨by omega, by omega⟩ ⟨by omega, by omega⟩ ⟨by omega, by omega⟩ (xRI_top _) (xRI_top _)) hM hL
      · exact leaf_ok lf_28_4 h (xB6 (xRI_top _) ⟨by omega, by omega⟩ (xRI_top _) ⟨by omega, by omega⟩ (xRI_top _) (xRI_top _)) hM hL
  · rcases Nat.lt_or_ge (xo (xs 3)) 2147483649 with g2 | g2
    · rcases Nat.lt_or_ge (xo (xs 1)) 2147483648 with g3 | g3
      · exact leaf_ok lf_28_5 h (xB6 (xRI_top _) ⟨by omega, by omega⟩ (xRI_top _) ⟨by omega, by omega⟩ (xRI_top _) (xRI_top _)) hM hL
      · rcases Nat.lt_or_ge (xo (xs 1)) 2147483656 with g4 | g4
        · rcases Nat.lt_or_ge (xo (xs 2)) 2147483648 with g5 | g5
          · exact leaf_ok lf_28_6 h (xB6 (xRI_top _) ⟨by omega, by omega⟩ ⟨by omega, by omega⟩ ⟨by omega, by omega⟩ (xRI_top _) (xRI_top _)) hM hL
          · rcases Nat.lt_or_ge (xo (xs 2)) 2147484648 with g6 | g6
            · exact leaf_ok lf_28_7 h (xB6 (xRI_top _) ⟨by omega, by omega⟩ ⟨by omega, by omega⟩ ⟨by omega, by omega⟩ (xRI_top _) (xRI_top _)) hM hL
            · exact leaf_ok lf_28_8 h (xB6 (xRI_top _) ⟨by omega, by omega⟩ ⟨by omega, by omega⟩ ⟨by omega, by omega⟩ (xRI_top _) (xRI_top _)) hM hL
        · exact leaf_ok lf_28_9 h (xB6 (xRI_top _) ⟨by omega, by omega⟩ (xRI_top _) ⟨by omega, by omega⟩ (xRI_top _) (xRI_top _)) hM hL
    · rcases Nat.lt_or_ge (xo (xs 1)) 2147483648 with g3 | g3
      · exact leaf_ok lf_28_10 h (xB6 (xRI_top _) ⟨by omega, by omega⟩ (xRI_top _) ⟨by omega, by omega⟩ (xRI_top _) (xRI_top _)) hM hL
      · rcases Nat.lt_or_ge (xo (xs 1)) 2147483656 with g4 | g4
        · rcases Nat.lt_or_ge (xo (xs 2)) 2147483648 with g5 | g5
          · exact leaf_ok lf_28_11 h (xB6 (xRI_top _) ⟨by omega, by omega⟩ ⟨by omega, by omega⟩ ⟨by omega, by omega⟩ (xRI_top _) (xRI_top _)) hM hL
          · rcases Nat.lt_or_ge (xo (xs 2)) 2147484648 with g6 | g6
            · exact leaf_ok lf_28_12 h (xB6 (xRI_top _) ⟨by omega, by omega⟩ ⟨by omega, by omega⟩ ⟨by omega, by omega⟩ (xRI_top _) (xRI_top _)) hM hL
            · exact leaf_ok lf_28_13 h (xB6 (xRI_top _) ⟨by omega, by omega⟩ ⟨by omega, by omega⟩ ⟨by omega, by omega⟩ (xRI_top _) (xRI_top _)) hM hL
        · exact leaf_ok lf_28_14 h (xB6 (xRI_top _) ⟨by omega, by omega⟩ (xRI_top _) ⟨by omega, by omega⟩ (xRI_top _) (xRI_top _)) hM hL
set_option maxRecDepth 100000 in
set_option maxHeartbeats 4000000 in
theorem case_29 {p : Program} {l : Launch} {e : Env} {s : State} {m : MethodId} {below : List Frame} {meth : Method} {c : Code} {b : Nat} {xs : Nat → Int32} {D : va_G} {tys : List (ClassId × FieldType)} {ls : Array Slot} {H : Heap} {locs : List Loc} {cells slots : Nat} (h : xLw p s m meth c b 6 xs D tys) (hM : xMem D tys s.heap.size b s 0 0 xw1 H locs cells slots) (hL : xRL s.heap.size b xL1 ls 4) : W p l e room_1 s m #[Value.ref b] below meth c H locs cells slots (lw_Z below #[Value.ref b] s) (F0 m 1101 ls []) := by
  exact leaf_ok lf_29_0 h (xB6 (xRI_top _) (xRI_top _) (xRI_top _) (xRI_top _) (xRI_top _) (xRI_top _)) hM hL
set_option maxRecDepth 100000 in
set_option maxHeartbeats 4000000 in
theorem case_30 {p : Program} {l : Launch} {e : Env} {s : State} {m : MethodId} {below : List Frame} {meth : Method} {c : Code} {b : Nat} {xs : Nat → Int32} {D : va_G} {tys : List (ClassId × FieldType)} {ls : Array Slot} {H : Heap} {locs : List Loc} {cells slots : Nat} (h : xLw p s m meth c b 6 xs D tys) (hM : xMem D tys s.heap.size b s 0 0 xw1 H locs cells slots) (hL : xRL s.heap.size b xL1 ls 4) : W p l e room_1 s m #[Value.ref b] below meth c H locs cells slots (lw_Z below #[Value.ref b] s) (F0 m 1114 ls []) := by
  have hb1 := xo_lt (xs 1)
  have hb2 := xo_lt (xs 2)
  rcases Nat.lt_or_ge (xo (xs 1)) 2147483648 with g1 | g1
  · exact leaf_ok lf_30_0 h (xB6 (xRI_top _) ⟨by omega, by omega⟩ (xRI_top _) (xRI_top _) (xRI_top _) (xRI_top _)) hM hL
  · rcases Nat.lt_or_ge (xo (xs 1)) 2147483649 with g2 | g2
    · rcases Nat.lt_or_ge (xo (xs 2)) 2147483648 with g3 | g3
      · exact leaf_ok lf_30_1 h (xB6 (xRI_top _) ⟨by omega, by omega⟩ ⟨by omega, by omega⟩ (xRI_top _) (xRI_top _) (xRI_top _)) hM hL
      · rcases Nat.lt_or_ge (xo (xs 2)) 2147483650 with g4 | g4
        · rcases Nat.lt_or_ge (xo (xs 2)) 2147483649 with g5 | g5
          · exact leaf_ok lf_30_2 h (xB6 (xRI_top _) ⟨by omega, by omega⟩ ⟨by omega, by omega⟩ (xRI_top _) (xRI_top _) (xRI_top _)) hM hL
          · exact leaf_ok lf_30_3 h (xB6 (xRI_top _) ⟨by omega, by omega⟩ ⟨by omega, by omega⟩ (xRI_top _) (xRI_top _) (xRI_top _)) hM hL
        · exact leaf_ok lf_30_4 h (xB6 (xRI_top _) ⟨by omega, by omega⟩ ⟨by omega, by omega⟩ (xRI_top _) (xRI_top _) (xRI_top _)) hM hL
    · exact leaf_ok lf_30_5 h (xB6 (xRI_top _) ⟨by omega, by omega⟩ (xRI_top _) (xRI_top _) (xRI_top _) (xRI_top _)) hM hL
set_option maxRecDepth 100000 in
set_option maxHeartbeats 4000000 in
theorem case_31 {p : Program} {l : Launch} {e : Env} {s : State} {m : MethodId} {below : List Frame} {meth : Method} {c : Code} {b : Nat} {xs : Nat → Int32} {D : va_G} {tys : List (ClassId × FieldType)} {ls : Array Slot} {H : Heap} {locs : List Loc} {cells slots : Nat} (h : xLw p s m meth c b 6 xs D tys) (hM : xMem D tys s.heap.size b s 0 0 xw1 H locs cells slots) (hL : xRL s.heap.size b xL1 ls 4) : W p l e room_1 s m #[Value.ref b] below meth c H locs cells slots (lw_Z below #[Value.ref b] s) (F0 m 1147 ls []) := by
  have hb1 := xo_lt (xs 1)
  have hb2 := xo_lt (xs 2)
  rcases Nat.lt_or_ge (xo (xs 1)) 2147483648 with g1 | g1
  · exact leaf_ok lf_31_0 h (xB6 (xRI_top _) ⟨by omega, by omega⟩ (xRI_top _) (xRI_top _) (xRI_top _) (xRI_top _)) hM hL
  · rcases Nat.lt_or_ge (xo (xs 1)) 2147483649 with g2 | g2
    · rcases Nat.lt_or_ge (xo (xs 2)) 2147483648 with g3 | g3
      · exact leaf_ok lf_31_1 h (xB6 (xRI_top _) ⟨by omega, by omega⟩ ⟨by omega, by omega⟩ (xRI_top _) (xRI_top _) (xRI_top _)) hM hL
      · rcases Nat.lt_or_ge (xo (xs 2)) 2147484648 with g4 | g4
        · exact leaf_ok lf_31_2 h (xB6 (xRI_top _) ⟨by omega, by omega⟩ ⟨by omega, by omega⟩ (xRI_top _) (xRI_top _) (xRI_top _)) hM hL
        · exact leaf_ok lf_31_3 h (xB6 (xRI_top _) ⟨by omega, by omega⟩ ⟨by omega, by omega⟩ (xRI_top _) (xRI_top _) (xRI_top _)) hM hL
    · exact leaf_ok lf_31_4 h (xB6 (xRI_top _) ⟨by omega, by omega⟩ (xRI_top _) (xRI_top _) (xRI_top _) (xRI_top _)) hM hL
set_option maxRecDepth 100000 in
set_option maxHeartbeats 4000000 in
theorem case_32 {p : Program} {l : Launch} {e : Env} {s : State} {m : MethodId} {below : List Frame} {meth : Method} {c : Code} {b : Nat} {xs : Nat → Int32} {D : va_G} {tys : List (ClassId × FieldType)} {ls : Array Slot} {H : Heap} {locs : List Loc} {cells slots : Nat} (h : xLw p s m meth c b 6 xs D tys) (hM : xMem D tys s.heap.size b s 0 0 xw1 H locs cells slots) (hL : xRL s.heap.size b xL1 ls 4) : W p l e room_1 s m #[Value.ref b] below meth c H locs cells slots (lw_Z below #[Value.ref b] s) (F0 m 1180 ls []) := by
  have hb1 := xo_lt (xs 1)
  rcases Nat.lt_or_ge (xo (xs 1)) 2147483648 with g1 | g1
  · exact leaf_ok lf_32_0 h (xB6 (xRI_top _) ⟨by omega, by omega⟩ (xRI_top _) (xRI_top _) (xRI_top _) (xRI_top _)) hM hL
  · rcases Nat.lt_or_ge (xo (xs 1)) 2147483651 with g2 | g2
    · rcases Nat.lt_or_ge (xo (xs 1)) 2147483649 with g3 | g3
      · exact leaf_ok lf_32_1 h (xB6 (xRI_top _) ⟨by omega, by omega⟩ (xRI_top _) (xRI_top _) (xRI_top _) (xRI_top _)) hM hL
      · rcases Nat.lt_or_ge (xo (xs 1)) 2147483650 with g4 | g4
        · exact leaf_ok lf_32_2 h (xB6 (xRI_top _) ⟨by omega, by omega⟩ (xRI_top _) (xRI_top _) (xRI_top _) (xRI_top _)) hM hL
        · exact leaf_ok lf_32_3 h (xB6 (xRI_top _) ⟨by omega, by omega⟩ (xRI_top _) (xRI_top _) (xRI_top _) (xRI_top _)) hM hL
    · exact leaf_ok lf_32_4 h (xB6 (xRI_top _) ⟨by omega, by omega⟩ (xRI_top _) (xRI_top _) (xRI_top _) (xRI_top _)) hM hL
set_option maxRecDepth 100000 in
set_option maxHeartbeats 4000000 in
theorem case_33 {p : Program} {l : Launch} {e : Env} {s : State} {m : MethodId} {below : List Frame} {meth : Method} {c : Code} {b : Nat} {xs : Nat → Int32} {D : va_G} {tys : List (ClassId × FieldType)} {ls : Array Slot} {H : Heap} {locs : List Loc} {cells slots : Nat} (h : xLw p s m meth c b 6 xs D tys) (hM : xMem D tys s.heap.size b s 0 0 xw1 H locs cells slots) (hL : xRL s.heap.size b xL1 ls 4) : W p l e room_1 s m #[Value.ref b] below meth c H locs cells slots (lw_Z below #[Value.ref b] s) (F0 m 1203 ls []) := by
  have hb1 := xo_lt (xs 1)
  rcases Nat.lt_or_ge (xo (xs 1)) 2147483648 with g1 | g1
  · exact leaf_ok lf_33_0 h (xB6 (xRI_top _) ⟨by omega, by omega⟩ (xRI_top _) (xRI_top _) (xRI_top _) (xRI_top _)) hM hL
  · rcases Nat.lt_or_ge (xo (xs 1)) 2147483651 with g2 | g2
    · rcases Nat.lt_or_ge (xo (xs 1)) 2147483649 with g3 | g3
      · exact leaf_ok lf_33_1 h (xB6 (xRI_top _) ⟨by omega, by omega⟩ (xRI_top _) (xRI_top _) (xRI_top _) (xRI_top _)) hM hL
      · rcases Nat.lt_or_ge (xo (xs 1)) 2147483650 with g4 | g4
        · exact leaf_ok lf_33_2 h (xB6 (xRI_top _) ⟨by omega, by omega⟩ (xRI_top _) (xRI_top _) (xRI_top _) (xRI_top _)) hM hL
        · exact leaf_ok lf_33_3 h (xB6 (xRI_top _) ⟨by omega, by omega⟩ (xRI_top _) (xRI_top _) (xRI_top _) (xRI_top _)) hM hL
    · exact leaf_ok lf_33_4 h (xB6 (xRI_top _) ⟨by omega, by omega⟩ (xRI_top _) (xRI_top _) (xRI_top _) (xRI_top _)) hM hL
set_option maxRecDepth 100000 in
set_option maxHeartbeats 4000000 in
theorem case_34 {p : Program} {l : Launch} {e : Env} {s : State} {m : MethodId} {below : List Frame} {meth : Method} {c : Code} {b : Nat} {xs : Nat → Int32} {D : va_G} {tys : List (ClassId × FieldType)} {ls : Array Slot} {H : Heap} {locs : List Loc} {cells slots : Nat} (h : xLw p s m meth c b 6 xs D tys) (hM : xMem D tys s.heap.size b s 0 0 xw1 H locs cells slots) (hL : xRL s.heap.size b xL1 ls 4) : W p l e room_1 s m #[Value.ref b] below meth c H locs cells slots (lw_Z below #[Value.ref b] s) (F0 m 1226 ls []) := by
  have hb1 := xo_lt (xs 1)
  rcases Nat.lt_or_ge (xo (xs 1)) 2147483648 with g1 | g1
  · exact leaf_ok lf_34_0 h (xB6 (xRI_top _) ⟨by omega, by omega⟩ (xRI_top _) (xRI_top _) (xRI_top _) (xRI_top _)) hM hL
  · rcases Nat.lt_or_ge (xo (xs 1)) 2147483664 with g2 | g2
    · rcases Nat.lt_or_ge (xo (xs 1)) 2147483649 with g3 | g3
      · exact leaf_ok lf_34_1 h (xB6 (xRI_top _) ⟨by omega, by omega⟩ (xRI_top _) (xRI_top _) (xRI_top _) (xRI_top _)) hM hL
      · rcases Nat.lt_or_ge (xo (xs 1)) 2147483650 with g4 | g4
        · exact leaf_ok lf_34_2 h (xB6 (xRI_top _) ⟨by omega, by omega⟩ (xRI_top _) (xRI_top _) (xRI_top _) (xRI_top _)) hM hL
        · rcases Nat.lt_or_ge (xo (xs 1)) 2147483651 with g5 | g5
          · exact leaf_ok lf_34_3 h (xB6 (xRI_top _) ⟨by omega, by omega⟩ (xRI_top _) (xRI_top _) (xRI_top _) (xRI_top _)) hM hL
          · rcases Nat.lt_or_ge (xo (xs 1)) 2147483652 with g6 | g6
            · exact leaf_ok lf_34_4 h (xB6 (xRI_top _) ⟨by omega, by omega⟩ (xRI_top _) (xRI_top _) (xRI_top _) (xRI_top _)) hM hL
            · rcases Nat.lt_or_ge (xo (xs 1)) 2147483653 with g7 | g7
              · exact leaf_ok lf_34_5 h (xB6 (xRI_top _) ⟨by omega, by omega⟩ (xRI_top _) (xRI_top _) (xRI_top _) (xRI_top _)) hM hL
              · rcases Nat.lt_or_ge (xo (xs 1)) 2147483654 with g8 | g8
                · exact leaf_ok lf_34_6 h (xB6 (xRI_top _) ⟨by omega, by omega⟩ (xRI_top _) (xRI_top _) (xRI_top _) (xRI_top _)) hM hL
                · rcases Nat.lt_or_ge (xo (xs 1)) 2147483655 with g9 | g9
                  · exact leaf_ok lf_34_7 h (xB6 (xRI_top _) ⟨by omega, by omega⟩ (xRI_top _) (xRI_top _) (xRI_top _) (xRI_top _)) hM hL
                  · rcases Nat.lt_or_ge (xo (xs 1)) 2147483656 with g10 | g10
                    · exact leaf_ok lf_34_8 h (xB6 (xRI_top _) ⟨by omega, by omega⟩ (xRI_top _) (xRI_top _) (xRI_top _) (xRI_top _)) hM hL
                    · rcases Nat.lt_or_ge (xo (xs 1)) 2147483657 with g11 | g11
                      · exact leaf_ok lf_34_9 h (xB6 (xRI_top _) ⟨by omega, by omega⟩ (xRI_top _) (xRI_top _) (xRI_top _) (xRI_top _)) hM hL
                      · rcases Nat.lt_or_ge (xo (xs 1)) 2147483658 with g12 | g12
                        · exact leaf_ok lf_34_10 h (xB6 (xRI_top _) ⟨by omega, by omega⟩ (xRI_top _) (xRI_top _) (xRI_top _) (xRI_top _)) hM hL
                        · rcases Nat.lt_or_ge (xo (xs 1)) 2147483659 with g13 | g13
                          · exact leaf_ok lf_34_11 h (xB6 (xRI_top _) ⟨by omega, by omega⟩ (xRI_top _) (xRI_top _) (xRI_top _) (xRI_top _)) hM hL
                          · rcases Nat.lt_or_ge (xo (xs 1)) 2147483660 with g14 | g14
                            · exact leaf_ok lf_34_12 h (xB6 (xRI_top _) ⟨by omega, by omega⟩ (xRI_top _) (xRI_top _) (xRI_top _) (xRI_top _)) hM hL
                            · rcases Nat.lt_or_ge (xo (xs 1)) 2147483661 with g15 | g15
                              · exact leaf_ok lf_34_13 h (xB6 (xRI_top _) ⟨by omega, by omega⟩ (xRI_top _) (xRI_top _) (xRI_top _) (xRI_top _)) hM hL
                              · rcases Nat.lt_or_ge (xo (xs 1)) 2147483662 with g16 | g16
                                · exact leaf_ok lf_34_14 h (xB6 (xRI_top _) ⟨by omega, by omega⟩ (xRI_top _) (xRI_top _) (xRI_top _) (xRI_top _)) hM hL
                                · rcases Nat.lt_or_ge (xo (xs 1)) 2147483663 with g17 | g17
                                  · exact leaf_ok lf_34_15 h (xB6 (xRI_top _) ⟨by omega, by omega⟩ (xRI_top _) (xRI_top _) (xRI_top _) (xRI_top _)) hM hL
                                  · exact leaf_ok lf_34_16 h (xB6 (xRI_top _) ⟨by omega, by omega⟩ (xRI_top _) (xRI_top _) (xRI_top _) (xRI_top _)) hM hL
    · exact leaf_ok lf_34_17 h (xB6 (xRI_top _) ⟨by omega, by omega⟩ (xRI_top _) (xRI_top _) (xRI_top _) (xRI_top _)) hM hL
set_option maxRecDepth 100000 in
set_option maxHeartbeats 4000000 in
theorem case_default {p : Program} {l : Launch} {e : Env} {s : State} {m : MethodId} {below : List Frame} {meth : Method} {c : Code} {b : Nat} {xs : Nat → Int32} {D : va_G} {tys : List (ClassId × FieldType)} {ls : Array Slot} {H : Heap} {locs : List Loc} {cells slots : Nat} (h : xLw p s m meth c b 6 xs D tys) (hM : xMem D tys s.heap.size b s 0 0 xw1 H locs cells slots) (hL : xRL s.heap.size b xL1 ls 4) : W p l e room_1 s m #[Value.ref b] below meth c H locs cells slots (lw_Z below #[Value.ref b] s) (F0 m 1249 ls []) := by
  exact leaf_ok lf_default_0 h (xB6 (xRI_top _) (xRI_top _) (xRI_top _) (xRI_top _) (xRI_top _) (xRI_top _)) hM hL
