/-! THE LAW UP TO ITS LOOP -/
theorem q_23 : Cond.classLink R_law 8 "SnippetExpander" ∈ zGood := zin1 (List.mem_of_getElem? (i := 23) rfl) (by decide +kernel)
theorem q_24 : Cond.instantiable RX5 14 ∈ zGood := zin1 (List.mem_of_getElem? (i := 24) rfl) (by decide +kernel)
theorem q_25 : Cond.methodLink R_law 107 y5_init ∈ zGood := zin1 (List.mem_of_getElem? (i := 25) rfl) (by decide +kernel)
theorem q_26 : Cond.instanceMethod y5_init ∈ zGood := zin1 (List.mem_of_getElem? (i := 26) rfl) (by decide +kernel)
theorem q_27 : Cond.code y5_init b5_init 2 (none) ∈ zGood := zin1 (List.mem_of_getElem? (i := 27) rfl) (by decide +kernel)
theorem q_1126 : Cond.classLink R_law 108 "SnippetExpanderModel" ∈ zGood := zin5 (List.mem_of_getElem? (i := 166) rfl) (by decide +kernel)
theorem q_1127 : Cond.instantiable RX7 36 ∈ zGood := zin5 (List.mem_of_getElem? (i := 167) rfl) (by decide +kernel)
theorem q_1128 : Cond.methodLink R_law 110 y7_init ∈ zGood := zin5 (List.mem_of_getElem? (i := 168) rfl) (by decide +kernel)
theorem q_1129 : Cond.instanceMethod y7_init ∈ zGood := zin5 (List.mem_of_getElem? (i := 169) rfl) (by decide +kernel)
theorem q_1130 : Cond.code y7_init b7_init 1 (none) ∈ zGood := zin5 (List.mem_of_getElem? (i := 170) rfl) (by decide +kernel)
theorem q_1740 : Cond.arrayClass .double ∈ zGood := zin8 (List.mem_of_getElem? (i := 60) rfl) (by decide +kernel)
theorem dL_law_0 : decode bL_law 0 = .ok (.new 8, 3) := by decide +kernel
theorem dL_law_3 : decode bL_law 3 = .ok (.dup, 1) := by decide +kernel
theorem dL_law_4 : decode bL_law 4 = .ok (.invokespecial 107, 3) := by decide +kernel
theorem dL_law_7 : decode bL_law 7 = .ok (.astore_n 1, 1) := by decide +kernel
theorem dL_law_8 : decode bL_law 8 = .ok (.new 108, 3) := by decide +kernel
theorem dL_law_11 : decode bL_law 11 = .ok (.dup, 1) := by decide +kernel
theorem dL_law_12 : decode bL_law 12 = .ok (.invokespecial 110, 3) := by decide +kernel
theorem dL_law_15 : decode bL_law 15 = .ok (.astore_n 2, 1) := by decide +kernel
theorem dL_law_16 : decode bL_law 16 = .ok (.iconst 1, 1) := by decide +kernel
theorem dL_law_17 : decode bL_law 17 = .ok (.newarray .long, 2) := by decide +kernel
theorem dL_law_19 : decode bL_law 19 = .ok (.astore_n 3, 1) := by decide +kernel
theorem dL_law_20 : decode bL_law 20 = .ok (.iconst 1, 1) := by decide +kernel
theorem dL_law_21 : decode bL_law 21 = .ok (.newarray .double, 2) := by decide +kernel
theorem dL_law_23 : decode bL_law 23 = .ok (.astore 4, 2) := by decide +kernel
theorem dL_law_25 : decode bL_law 25 = .ok (.iconst 0, 1) := by decide +kernel
theorem dL_law_26 : decode bL_law 26 = .ok (.istore 5, 2) := by decide +kernel
def mu00 : zM := (fun _ _ => 0, fun _ _ => 0, fun _ _ => 0, fun _ _ => 0)
def muF : zM := mk7 (mk5 mu00)
set_option maxRecDepth 20000 in
theorem law_up {K : zK} {Z : zZ} {α : Type} {F : α → State → Prop} {res : Option α} {bS : Nat} (hK : zOk K Z bL_law R_law 9 (some .boolean) 2048 84000 601024 7293034) (hKi : zKi Z K.2.2.2.2.1) (k : zG K Z (zΩn Z) F 3600 21600 28 [(0, .ref bS), (1, .ref (Z.2.2.1 + 1)), (2, .ref (Z.2.2.1 + 292)), (3, .ref (Z.2.2.1 + 339)), (4, .ref (Z.2.2.1 + 340)), (5, .int (zi 0))] [] (340, muF) res) : zG K Z (zΩn Z) F 3940 110366 0 [(0, .ref bS)] [] (0, mu00) res := by
  refine gn_new hK (n := 0) (cb := 3939) (sb := 110352) (ci := 5) tyX5 zfin_5 rfl (by decide) (by decide +kernel) tyX5_ok hdf5 q_23 q_24 q_1 dL_law_0 ?_
  refine g_dup hK dL_law_3 rfl ?_
  refine gn_call hK hKi (b := 1) (rest := [.ref (Z.2.2.1 + 1)]) (As := []) (nA := 0) (cb := 3649) (sb := 68634) (rm := rmI5) (q := (1, _)) (ci_5 K.2.1 hK.2.2.2.2.2.2.2.2.1 Z) q_25 q_26 q_1 q_27 rfl rfl (by decide +kernel) (by decide) (Nat.le_of_ble_eq_true rfl) (Nat.le_of_ble_eq_true rfl) (Nat.le_of_ble_eq_true rfl) rfl dL_law_4 ?_
  refine g_astore_n hK (lv2 := [(0, .ref bS), (1, .ref (Z.2.2.1 + 1))]) [1, 0] rfl rfl (by decide) dL_law_7 ?_
  refine gn_new hK (n := 291) (cb := 3648) (sb := 68598) (ci := 7) tyX7 zfin_7 rfl (by decide) (by decide +kernel) tyX7_ok hdf7 q_1126 q_1127 q_7 dL_law_8 ?_
  refine g_dup hK dL_law_11 rfl ?_
  refine gn_call hK hKi (b := 292) (rest := [.ref (Z.2.2.1 + 292)]) (As := []) (nA := 0) (cb := 3602) (sb := 21602) (rm := rmI7) (q := (292, _)) (ci_7 K.2.1 hK.2.2.2.2.2.2.2.2.1 Z) q_1128 q_1129 q_7 q_1130 rfl rfl (by decide +kernel) (by decide) (Nat.le_of_ble_eq_true rfl) (Nat.le_of_ble_eq_true rfl) (Nat.le_of_ble_eq_true rfl) rfl dL_law_12 ?_
  refine g_astore_n hK (lv2 := [(0, .ref bS), (1, .ref (Z.2.2.1 + 1)), (2, .ref (Z.2.2.1 + 292))]) [1, 2, 0] rfl rfl (by decide) dL_law_15 ?_
  refine g_iconst hK dL_law_16 zki1 ?_
  refine gn_newL hK (n := 338) (cb := 3601) (sb := 21601) (len := 1) rfl (by decide) (by decide +kernel) (by decide +kernel) q_280 dL_law_17 ?_
  refine g_astore_n hK (lv2 := [(0, .ref bS), (1, .ref (Z.2.2.1 + 1)), (2, .ref (Z.2.2.1 + 292)), (3, .ref (Z.2.2.1 + 339))]) [1, 2, 3, 0] rfl rfl (by decide) dL_law_19 ?_
  refine g_iconst hK dL_law_20 zki1 ?_
  refine gn_newD hK (n := 339) (cb := 3600) (sb := 21600) (len := 1) rfl (by decide) (by decide +kernel) (by decide +kernel) q_1740 dL_law_21 ?_
  refine g_astore hK (lv2 := [(0, .ref bS), (1, .ref (Z.2.2.1 + 1)), (2, .ref (Z.2.2.1 + 292)), (3, .ref (Z.2.2.1 + 339)), (4, .ref (Z.2.2.1 + 340))]) [1, 2, 3, 4, 0] rfl (by decide) dL_law_23 ?_
  refine g_iconst hK dL_law_25 zki0 ?_
  refine g_istore hK (lv2 := [(0, .ref bS), (1, .ref (Z.2.2.1 + 1)), (2, .ref (Z.2.2.1 + 292)), (3, .ref (Z.2.2.1 + 339)), (4, .ref (Z.2.2.1 + 340)), (5, .int (zi 0))]) [1, 2, 3, 4, 5, 0] rfl (by decide) dL_law_26 ?_
  exact k
