set_option maxRecDepth 20000 in
set_option maxHeartbeats 2000000 in
theorem pL_law_2058 {K : zK} {Z : zZ} {F : Bool × zM → State → Prop} {bS : Nat} {cb sb : Nat} {L : Nat} {xs : Nat → Int32} (hcx : zOk K Z bL_law R_law 9 (some .boolean) 2048 84000 601024 7293034 ∧ zSX K Z bS L xs ∧ zNc K.2.2.2.2.1 ∧ (∀ {cb sb pc : Nat} {lv : List (Nat × Value)} {μ : zM}, decode bL_law pc = .ok (.ireturn, 1) → zG K Z (zΩ Z) F cb sb pc lv [.int (zi 1)] μ (some (true, μ))) ∧ ∀ {cb sb pc : Nat} {lv : List (Nat × Value)} {μ : zM}, decode bL_law pc = .ok (.ireturn, 1) → zG K Z (zΩ Z) F cb sb pc lv [.int (zi 0)] μ (some (false, μ))) (k28 : Int → zM → Option (Bool × zM)) (hk28 : ∀ (x5 : Int) (μ : zM) (hx5 : zr x5), zG K Z (zΩ Z) F cb sb 28 [(0, .ref bS), (1, .ref (Z.2.2.1 + 1)), (2, .ref (Z.2.2.1 + 292)), (3, .ref (Z.2.2.1 + 339)), (4, .ref (Z.2.2.1 + 340)), (5, .int (zi x5))] [] μ (k28 x5 μ)) (x5 : Int) (μ : zM) (hx5 : zr x5) : zG K Z (zΩ Z) F (cb + 0) (sb + 0) 2058 [(0, .ref bS), (1, .ref (Z.2.2.1 + 1)), (2, .ref (Z.2.2.1 + 292)), (3, .ref (Z.2.2.1 + 339)), (4, .ref (Z.2.2.1 + 340)), (5, .int (zi x5))] [] μ (fL_law_2058 L xs k28 x5 μ) := by
  obtain ⟨hK, hX, hNc, hR1, hR0⟩ := id hcx
  unfold fL_law_2058
  refine g_iinc hK (lv2 := fun v96 => [(0, .ref bS), (1, .ref (Z.2.2.1 + 1)), (2, .ref (Z.2.2.1 + 292)), (3, .ref (Z.2.2.1 + 339)), (4, .ref (Z.2.2.1 + 340)), (5, .int (zi v96))]) 5 rfl [1, 2, 3, 4, 5, 0] (fun _ => rfl) (by decide) dL_law_2058 (fun v96 hv96 => ?_)
  refine g_goto hK (tgt := 28) (by decide) dL_law_2061 ?_
  refine g_bud (cb2 := cb) (sb2 := sb) (by omega) (by omega) ?_
  exact hk28 v96 μ hv96
set_option maxRecDepth 20000 in
set_option maxHeartbeats 2000000 in
theorem pL_law_1272 {K : zK} {Z : zZ} {F : Bool × zM → State → Prop} {bS : Nat} {cb sb : Nat} {L : Nat} {xs : Nat → Int32} (hcx : zOk K Z bL_law R_law 9 (some .boolean) 2048 84000 601024 7293034 ∧ zSX K Z bS L xs ∧ zNc K.2.2.2.2.1 ∧ (∀ {cb sb pc : Nat} {lv : List (Nat × Value)} {μ : zM}, decode bL_law pc = .ok (.ireturn, 1) → zG K Z (zΩ Z) F cb sb pc lv [.int (zi 1)] μ (some (true, μ))) ∧ ∀ {cb sb pc : Nat} {lv : List (Nat × Value)} {μ : zM}, decode bL_law pc = .ok (.ireturn, 1) → zG K Z (zΩ Z) F cb sb pc lv [.int (zi 0)] μ (some (false, μ))) (k28 : Int → zM → Option (Bool × zM)) (hk28 : ∀ (x5 : Int) (μ : zM) (hx5 : zr x5), zG K Z (zΩ Z) F cb sb 28 [(0, .ref bS), (1, .ref (Z.2.2.1 + 1)), (2, .ref (Z.2.2.1 + 292)), (3, .ref (Z.2.2.1 + 339)), (4, .ref (Z.2.2.1 + 340)), (5, .int (zi x5))] [] μ (k28 x5 μ)) (x5 : Int) (μ : zM) (hx5 : zr x5) : zG K Z (zΩ Z) F (cb + 1) (sb + 6) 1272 [(0, .ref bS), (1, .ref (Z.2.2.1 + 1)), (2, .ref (Z.2.2.1 + 292)), (3, .ref (Z.2.2.1 + 339)), (4, .ref (Z.2.2.1 + 340)), (5, .int (zi x5))] [] μ (fL_law_1272 L xs k28 x5 μ) := by
  obtain ⟨hK, hX, hNc, hR1, hR0⟩ := id hcx
  unfold fL_law_1272
  refine g_aload_n hK 1 rfl rfl dL_law_1272 ?_
  refine g_aload_n hK 3 rfl rfl dL_law_1273 ?_
  refine g_callSW hK hNc (rm := rmL_longest) (cb := cb + 0) (sb := sb + 0) (As := [.ref (Z.2.2.1 + 1), .ref (Z.2.2.1 + 339)]) (n := 2) (cL_longest K.2.1 hK.2.2.2.2.2.2.2.2.1 Z μ ) q_992 q_993 q_0 q_994 rfl (by decide +kernel) (by decide) (Nat.le_of_ble_eq_true rfl) (Nat.le_of_ble_eq_true rfl) (Nat.le_of_ble_eq_true rfl) rfl dL_law_1274 (fun r57 m39 hr57 hpr57 => ?_)
  refine g_istore hK (lv2 := [(0, .ref bS), (1, .ref (Z.2.2.1 + 1)), (2, .ref (Z.2.2.1 + 292)), (3, .ref (Z.2.2.1 + 339)), (4, .ref (Z.2.2.1 + 340)), (5, .int (zi x5)), (6, .int (zi r57))]) [1, 2, 3, 4, 5, 6, 0] rfl (by decide) dL_law_1277 ?_
  refine g_aload_n hK 2 rfl rfl dL_law_1279 ?_
  refine g_callVcl hK (mk := mkI) (rm := rm7_longest) (cb := cb + 0) (sb := sb + 0) (As := []) (b := 292) (n := 0) (c7_longest K.2.1 hK.2.2.2.2.2.2.2.2.1 Z  m39 ) rfl (ci := 7) rfl (by decide) kc_292 q_1614 q_1615 q_1616 q_7 q_1617 rfl (by decide +kernel) (by decide) (Nat.le_of_ble_eq_true rfl) (Nat.le_of_ble_eq_true rfl) (Nat.le_of_ble_eq_true rfl) rfl dL_law_1280 (fun r58 m40 hr58 hpr58 => ?_)
  refine g_istore hK (lv2 := [(0, .ref bS), (1, .ref (Z.2.2.1 + 1)), (2, .ref (Z.2.2.1 + 292)), (3, .ref (Z.2.2.1 + 339)), (4, .ref (Z.2.2.1 + 340)), (5, .int (zi x5)), (6, .int (zi r57)), (7, .int (zi r58))]) [1, 2, 3, 4, 5, 6, 7, 0] rfl (by decide) dL_law_1283 ?_
  refine g_aload_n hK 2 rfl rfl dL_law_1285 ?_
  refine g_callVco hK (mk := mkI) (rm := rm7_thrown) (cb := cb + 0) (sb := sb + 0) (As := []) (b := 292) (n := 0) (c7_thrown K.2.1 hK.2.2.2.2.2.2.2.2.1 Z  m40 ) rfl (ci := 7) rfl (by decide) kc_292 q_1306 q_1307 q_1308 q_7 q_1309 rfl (by decide +kernel) (by decide) (Nat.le_of_ble_eq_true rfl) (Nat.le_of_ble_eq_true rfl) (Nat.le_of_ble_eq_true rfl) rfl dL_law_1286 (fun r59 hr59 hpr59 => ?_)
  refine g_iload hK 6 rfl dL_law_1289 ?_
  refine g_icmp_eq hK hpr59 hpr57 (tgt := 1296) (by decide) dL_law_1291 (fun _ => ?_) (fun _ => ?_)
  · refine g_iload hK 6 rfl dL_law_1296 ?_
    refine g_if_ne hK hpr57 (tgt := 1313) (by decide) dL_law_1298 (fun _ => ?_) (fun _ => ?_)
    · refine g_goto hK (tgt := 2058) (by decide) dL_law_1313 ?_
      refine g_lv (lv2 := [(0, .ref bS), (1, .ref (Z.2.2.1 + 1)), (2, .ref (Z.2.2.1 + 292)), (3, .ref (Z.2.2.1 + 339)), (4, .ref (Z.2.2.1 + 340)), (5, .int (zi x5))]) [0, 1, 2, 3, 4, 5] rfl ?_
      exact pL_law_2058 hcx k28 hk28 x5 m40 hx5
    · refine g_aload_n hK 3 rfl rfl dL_law_1301 ?_
      refine g_iconst hK dL_law_1302 zki0 ?_
      refine g_lald hK kc_339 dL_law_1303 (fun _ hl69 => ?_)
      refine g_iload hK 7 rfl dL_law_1304 ?_
      refine g_i2l hK dL_law_1306 hpr58 ?_
      refine g_lcmp hK dL_law_1307 hl69 (zr_64 hpr58) (fun v69 hv69 => ?_)
      refine g_if_eq hK hv69 (tgt := 1313) (by decide) dL_law_1308 (fun _ => ?_) (fun _ => ?_)
      · refine g_goto hK (tgt := 2058) (by decide) dL_law_1313 ?_
        refine g_lv (lv2 := [(0, .ref bS), (1, .ref (Z.2.2.1 + 1)), (2, .ref (Z.2.2.1 + 292)), (3, .ref (Z.2.2.1 + 339)), (4, .ref (Z.2.2.1 + 340)), (5, .int (zi x5))]) [0, 1, 2, 3, 4, 5] rfl ?_
        exact pL_law_2058 hcx k28 hk28 x5 m40 hx5
      · refine g_iconst hK dL_law_1311 zki0 ?_
        exact hR0 dL_law_1312
  · refine g_iconst hK dL_law_1294 zki0 ?_
    exact hR0 dL_law_1295
set_option maxRecDepth 20000 in
set_option maxHeartbeats 2000000 in
theorem pL_law_1671 {K : zK} {Z : zZ} {F : Bool × zM → State → Prop} {bS : Nat} {cb sb : Nat} {L : Nat} {xs : Nat → Int32} (hcx : zOk K Z bL_law R_law 9 (some .boolean) 2048 84000 601024 7293034 ∧ zSX K Z bS L xs ∧ zNc K.2.2.2.2.1 ∧ (∀ {cb sb pc : Nat} {lv : List (Nat × Value)} {μ : zM}, decode bL_law pc = .ok (.ireturn, 1) → zG K Z (zΩ Z) F cb sb pc lv [.int (zi 1)] μ (some (true, μ))) ∧ ∀ {cb sb pc : Nat} {lv : List (Nat × Value)} {μ : zM}, decode bL_law pc = .ok (.ireturn, 1) → zG K Z (zΩ Z) F cb sb pc lv [.int (zi 0)] μ (some (false, μ))) (k28 : Int → zM → Option (Bool × zM)) (hk28 : ∀ (x5 : Int) (μ : zM) (hx5 : zr x5), zG K Z (zΩ Z) F cb sb 28 [(0, .ref bS), (1, .ref (Z.2.2.1 + 1)), (2, .ref (Z.2.2.1 + 292)), (3, .ref (Z.2.2.1 + 339)), (4, .ref (Z.2.2.1 + 340)), (5, .int (zi x5))] [] μ (k28 x5 μ)) (x5 : Int) (μ : zM) (hx5 : zr x5) : zG K Z (zΩ Z) F (cb + 2) (sb + 12) 1671 [(0, .ref bS), (1, .ref (Z.2.2.1 + 1)), (2, .ref (Z.2.2.1 + 292)), (3, .ref (Z.2.2.1 + 339)), (4, .ref (Z.2.2.1 + 340)), (5, .int (zi x5))] [] μ (fL_law_1671 L xs k28 x5 μ) := by
  obtain ⟨hK, hX, hNc, hR1, hR0⟩ := id hcx
  unfold fL_law_1671
  refine g_aload_n hK 1 rfl rfl dL_law_1671 ?_
  refine g_aload_n hK 0 rfl rfl dL_law_1672 ?_
  refine g_iload hK 5 rfl dL_law_1673 ?_
  refine g_iconst hK dL_law_1675 zki1 ?_
  refine g_iadd hK dL_law_1676 (fun v82 hv82 => ?_)
  refine g_sld hK hX dL_law_1677 (fun _ hl82 => ?_)
  refine g_aload_n hK 3 rfl rfl dL_law_1678 ?_
  refine g_callSW hK hNc (rm := rmL_type) (cb := cb + 0) (sb := sb + 0) (As := [.ref (Z.2.2.1 + 1), .int (zi ((xs (zx v82)).toInt)), .ref (Z.2.2.1 + 339)]) (n := 3) (cL_type K.2.1 hK.2.2.2.2.2.2.2.2.1 Z ((xs (zx v82)).toInt) μ hl82) q_1064 q_1065 q_0 q_1066 rfl (by decide +kernel) (by decide) (Nat.le_of_ble_eq_true rfl) (Nat.le_of_ble_eq_true rfl) (Nat.le_of_ble_eq_true rfl) rfl dL_law_1679 (fun r78 m53 hr78 hpr78 => ?_)
  refine g_istore hK (lv2 := [(0, .ref bS), (1, .ref (Z.2.2.1 + 1)), (2, .ref (Z.2.2.1 + 292)), (3, .ref (Z.2.2.1 + 339)), (4, .ref (Z.2.2.1 + 340)), (5, .int (zi x5)), (6, .int (zi r78))]) [1, 2, 3, 4, 5, 6, 0] rfl (by decide) dL_law_1682 ?_
  refine g_aload_n hK 2 rfl rfl dL_law_1684 ?_
  refine g_aload_n hK 0 rfl rfl dL_law_1685 ?_
  refine g_iload hK 5 rfl dL_law_1686 ?_
  refine g_iconst hK dL_law_1688 zki1 ?_
  refine g_iadd hK dL_law_1689 (fun v83 hv83 => ?_)
  refine g_sld hK hX dL_law_1690 (fun _ hl83 => ?_)
  refine g_callVcl hK (mk := mkI) (rm := rm7_type) (cb := cb + 0) (sb := sb + 0) (As := [.int (zi ((xs (zx v83)).toInt))]) (b := 292) (n := 1) (c7_type K.2.1 hK.2.2.2.2.2.2.2.2.1 Z ((xs (zx v83)).toInt) m53 hl83) rfl (ci := 7) rfl (by decide) kc_292 q_1684 q_1685 q_1686 q_7 q_1687 rfl (by decide +kernel) (by decide) (Nat.le_of_ble_eq_true rfl) (Nat.le_of_ble_eq_true rfl) (Nat.le_of_ble_eq_true rfl) rfl dL_law_1691 (fun r79 m54 hr79 hpr79 => ?_)
  refine g_istore hK (lv2 := [(0, .ref bS), (1, .ref (Z.2.2.1 + 1)), (2, .ref (Z.2.2.1 + 292)), (3, .ref (Z.2.2.1 + 339)), (4, .ref (Z.2.2.1 + 340)), (5, .int (zi x5)), (6, .int (zi r78)), (7, .int (zi r79))]) [1, 2, 3, 4, 5, 6, 7, 0] rfl (by decide) dL_law_1694 ?_
  refine g_aload_n hK 2 rfl rfl dL_law_1696 ?_
  refine g_callVco hK (mk := mkI) (rm := rm7_thrown) (cb := cb + 0) (sb := sb + 0) (As := []) (b := 292) (n := 0) (c7_thrown K.2.1 hK.2.2.2.2.2.2.2.2.1 Z  m54 ) rfl (ci := 7) rfl (by decide) kc_292 q_1306 q_1307 q_1308 q_7 q_1309 rfl (by decide +kernel) (by decide) (Nat.le_of_ble_eq_true rfl) (Nat.le_of_ble_eq_true rfl) (Nat.le_of_ble_eq_true rfl) rfl dL_law_1697 (fun r80 hr80 hpr80 => ?_)
  refine g_iload hK 6 rfl dL_law_1700 ?_
  refine g_icmp_eq hK hpr80 hpr78 (tgt := 1707) (by decide) dL_law_1702 (fun _ => ?_) (fun _ => ?_)
  · refine g_iload hK 6 rfl dL_law_1707 ?_
    refine g_if_ne hK hpr78 (tgt := 1724) (by decide) dL_law_1709 (fun _ => ?_) (fun _ => ?_)
    · refine g_goto hK (tgt := 2058) (by decide) dL_law_1724 ?_
      refine g_lv (lv2 := [(0, .ref bS), (1, .ref (Z.2.2.1 + 1)), (2, .ref (Z.2.2.1 + 292)), (3, .ref (Z.2.2.1 + 339)), (4, .ref (Z.2.2.1 + 340)), (5, .int (zi x5))]) [0, 1, 2, 3, 4, 5] rfl ?_
      exact pL_law_2058 hcx k28 hk28 x5 m54 hx5
    · refine g_aload_n hK 3 rfl rfl dL_law_1712 ?_
      refine g_iconst hK dL_law_1713 zki0 ?_
      refine g_lald hK kc_339 dL_law_1714 (fun _ hl84 => ?_)
      refine g_iload hK 7 rfl dL_law_1715 ?_
      refine g_i2l hK dL_law_1717 hpr79 ?_
      refine g_lcmp hK dL_law_1718 hl84 (zr_64 hpr79) (fun v84 hv84 => ?_)
      refine g_if_eq hK hv84 (tgt := 1724) (by decide) dL_law_1719 (fun _ => ?_) (fun _ => ?_)
      · refine g_goto hK (tgt := 2058) (by decide) dL_law_1724 ?_
        refine g_lv (lv2 := [(0, .ref bS), (1, .ref (Z.2.2.1 + 1)), (2, .ref (Z.2.2.1 + 292)), (3, .ref (Z.2.2.1 + 339)), (4, .ref (Z.2.2.1 + 340)), (5, .int (zi x5))]) [0, 1, 2, 3, 4, 5] rfl ?_
        exact pL_law_2058 hcx k28 hk28 x5 m54 hx5
      · refine g_iconst hK dL_law_1722 zki0 ?_
        exact hR0 dL_law_1723
  · refine g_iconst hK dL_law_1705 zki0 ?_
    exact hR0 dL_law_1706
set_option maxRecDepth 20000 in
set_option maxHeartbeats 2000000 in
theorem pL_law_1559 {K : zK} {Z : zZ} {F : Bool × zM → State → Prop} {bS : Nat} {cb sb : Nat} {L : Nat} {xs : Nat → Int32} (hcx : zOk K Z bL_law R_law 9 (some .boolean) 2048 84000 601024 7293034 ∧ zSX K Z bS L xs ∧ zNc K.2.2.2.2.1 ∧ (∀ {cb sb pc : Nat} {lv : List (Nat × Value)} {μ : zM}, decode bL_law pc = .ok (.ireturn, 1) → zG K Z (zΩ Z) F cb sb pc lv [.int (zi 1)] μ (some (true, μ))) ∧ ∀ {cb sb pc : Nat} {lv : List (Nat × Value)} {μ : zM}, decode bL_law pc = .ok (.ireturn, 1) → zG K Z (zΩ Z) F cb sb pc lv [.int (zi 0)] μ (some (false, μ))) (k28 : Int → zM → Option (Bool × zM)) (hk28 : ∀ (x5 : Int) (μ : zM) (hx5 : zr x5), zG K Z (zΩ Z) F cb sb 28 [(0, .ref bS), (1, .ref (Z.2.2.1 + 1)), (2, .ref (Z.2.2.1 + 292)), (3, .ref (Z.2.2.1 + 339)), (4, .ref (Z.2.2.1 + 340)), (5, .int (zi x5))] [] μ (k28 x5 μ)) (x5 : Int) (μ : zM) (hx5 : zr x5) : zG K Z (zΩ Z) F (cb + 1) (sb + 6) 1559 [(0, .ref bS), (1, .ref (Z.2.2.1 + 1)), (2, .ref (Z.2.2.1 + 292)), (3, .ref (Z.2.2.1 + 339)), (4, .ref (Z.2.2.1 + 340)), (5, .int (zi x5))] [] μ (fL_law_1559 L xs k28 x5 μ) := by
  obtain ⟨hK, hX, hNc, hR1, hR0⟩ := id hcx
  unfold fL_law_1559
  refine g_aload_n hK 1 rfl rfl dL_law_1559 ?_
  refine g_aload_n hK 0 rfl rfl dL_law_1560 ?_
  refine g_iload hK 5 rfl dL_law_1561 ?_
  refine g_iconst hK dL_law_1563 zki1 ?_
  refine g_iadd hK dL_law_1564 (fun v76 hv76 => ?_)
  refine g_sld hK hX dL_law_1565 (fun _ hl76 => ?_)
  refine g_aload_n hK 3 rfl rfl dL_law_1566 ?_
  refine g_callSW hK hNc (rm := rmL_lengthOf) (cb := cb + 0) (sb := sb + 0) (As := [.ref (Z.2.2.1 + 1), .int (zi ((xs (zx v76)).toInt)), .ref (Z.2.2.1 + 339)]) (n := 3) (cL_lengthOf K.2.1 hK.2.2.2.2.2.2.2.2.1 Z ((xs (zx v76)).toInt) μ hl76) q_1040 q_1041 q_0 q_1042 rfl (by decide +kernel) (by decide) (Nat.le_of_ble_eq_true rfl) (Nat.le_of_ble_eq_true rfl) (Nat.le_of_ble_eq_true rfl) rfl dL_law_1567 (fun r72 m49 hr72 hpr72 => ?_)
  refine g_istore hK (lv2 := [(0, .ref bS), (1, .ref (Z.2.2.1 + 1)), (2, .ref (Z.2.2.1 + 292)), (3, .ref (Z.2.2.1 + 339)), (4, .ref (Z.2.2.1 + 340)), (5, .int (zi x5)), (6, .int (zi r72))]) [1, 2, 3, 4, 5, 6, 0] rfl (by decide) dL_law_1570 ?_
  refine g_aload_n hK 2 rfl rfl dL_law_1572 ?_
  refine g_aload_n hK 0 rfl rfl dL_law_1573 ?_
  refine g_iload hK 5 rfl dL_law_1574 ?_
  refine g_iconst hK dL_law_1576 zki1 ?_
  refine g_iadd hK dL_law_1577 (fun v77 hv77 => ?_)
  refine g_sld hK hX dL_law_1578 (fun _ hl77 => ?_)
  refine g_callVcl hK (mk := mkI) (rm := rm7_lengthOf) (cb := cb + 0) (sb := sb + 0) (As := [.int (zi ((xs (zx v77)).toInt))]) (b := 292) (n := 1) (c7_lengthOf K.2.1 hK.2.2.2.2.2.2.2.2.1 Z ((xs (zx v77)).toInt) m49 hl77) rfl (ci := 7) rfl (by decide) kc_292 q_1644 q_1645 q_1646 q_7 q_1647 rfl (by decide +kernel) (by decide) (Nat.le_of_ble_eq_true rfl) (Nat.le_of_ble_eq_true rfl) (Nat.le_of_ble_eq_true rfl) rfl dL_law_1579 (fun r73 m50 hr73 hpr73 => ?_)
  refine g_istore hK (lv2 := [(0, .ref bS), (1, .ref (Z.2.2.1 + 1)), (2, .ref (Z.2.2.1 + 292)), (3, .ref (Z.2.2.1 + 339)), (4, .ref (Z.2.2.1 + 340)), (5, .int (zi x5)), (6, .int (zi r72)), (7, .int (zi r73))]) [1, 2, 3, 4, 5, 6, 7, 0] rfl (by decide) dL_law_1582 ?_
  refine g_aload_n hK 2 rfl rfl dL_law_1584 ?_
  refine g_callVco hK (mk := mkI) (rm := rm7_thrown) (cb := cb + 0) (sb := sb + 0) (As := []) (b := 292) (n := 0) (c7_thrown K.2.1 hK.2.2.2.2.2.2.2.2.1 Z  m50 ) rfl (ci := 7) rfl (by decide) kc_292 q_1306 q_1307 q_1308 q_7 q_1309 rfl (by decide +kernel) (by decide) (Nat.le_of_ble_eq_true rfl) (Nat.le_of_ble_eq_true rfl) (Nat.le_of_ble_eq_true rfl) rfl dL_law_1585 (fun r74 hr74 hpr74 => ?_)
  refine g_iload hK 6 rfl dL_law_1588 ?_
  refine g_icmp_eq hK hpr74 hpr72 (tgt := 1595) (by decide) dL_law_1590 (fun _ => ?_) (fun _ => ?_)
  · refine g_iload hK 6 rfl dL_law_1595 ?_
    refine g_if_ne hK hpr72 (tgt := 1612) (by decide) dL_law_1597 (fun _ => ?_) (fun _ => ?_)
    · refine g_goto hK (tgt := 2058) (by decide) dL_law_1612 ?_
      refine g_lv (lv2 := [(0, .ref bS), (1, .ref (Z.2.2.1 + 1)), (2, .ref (Z.2.2.1 + 292)), (3, .ref (Z.2.2.1 + 339)), (4, .ref (Z.2.2.1 + 340)), (5, .int (zi x5))]) [0, 1, 2, 3, 4, 5] rfl ?_
      exact pL_law_2058 hcx k28 hk28 x5 m50 hx5
    · refine g_aload_n hK 3 rfl rfl dL_law_1600 ?_
      refine g_iconst hK dL_law_1601 zki0 ?_
      refine g_lald hK kc_339 dL_law_1602 (fun _ hl78 => ?_)
      refine g_iload hK 7 rfl dL_law_1603 ?_
      refine g_i2l hK dL_law_1605 hpr73 ?_
      refine g_lcmp hK dL_law_1606 hl78 (zr_64 hpr73) (fun v78 hv78 => ?_)
      refine g_if_eq hK hv78 (tgt := 1612) (by decide) dL_law_1607 (fun _ => ?_) (fun _ => ?_)
      · refine g_goto hK (tgt := 2058) (by decide) dL_law_1612 ?_
        refine g_lv (lv2 := [(0, .ref bS), (1, .ref (Z.2.2.1 + 1)), (2, .ref (Z.2.2.1 + 292)), (3, .ref (Z.2.2.1 + 339)), (4, .ref (Z.2.2.1 + 340)), (5, .int (zi x5))]) [0, 1, 2, 3, 4, 5] rfl ?_
        exact pL_law_2058 hcx k28 hk28 x5 m50 hx5
      · refine g_iconst hK dL_law_1610 zki0 ?_
        exact hR0 dL_law_1611
  · refine g_iconst hK dL_law_1593 zki0 ?_
    exact hR0 dL_law_1594
set_option maxRecDepth 20000 in
set_option maxHeartbeats 2000000 in
theorem pL_law_1946 {K : zK} {Z : zZ} {F : Bool × zM → State → Prop} {bS : Nat} {cb sb : Nat} {L : Nat} {xs : Nat → Int32} (hcx : zOk K Z bL_law R_law 9 (some .boolean) 2048 84000 601024 7293034 ∧ zSX K Z bS L xs ∧ zNc K.2.2.2.2.1 ∧ (∀ {cb sb pc : Nat} {lv : List (Nat × Value)} {μ : zM}, decode bL_law pc = .ok (.ireturn, 1) → zG K Z (zΩ Z) F cb sb pc lv [.int (zi 1)] μ (some (true, μ))) ∧ ∀ {cb sb pc : Nat} {lv : List (Nat × Value)} {μ : zM}, decode bL_law pc = .ok (.ireturn, 1) → zG K Z (zΩ Z) F cb sb pc lv [.int (zi 0)] μ (some (false, μ))) (k28 : Int → zM → Option (Bool × zM)) (hk28 : ∀ (x5 : Int) (μ : zM) (hx5 : zr x5), zG K Z (zΩ Z) F cb sb 28 [(0, .ref bS), (1, .ref (Z.2.2.1 + 1)), (2, .ref (Z.2.2.1 + 292)), (3, .ref (Z.2.2.1 + 339)), (4, .ref (Z.2.2.1 + 340)), (5, .int (zi x5))] [] μ (k28 x5 μ)) (x5 : Int) (μ : zM) (hx5 : zr x5) : zG K Z (zΩ Z) F (cb + 1) (sb + 6) 1946 [(0, .ref bS), (1, .ref (Z.2.2.1 + 1)), (2, .ref (Z.2.2.1 + 292)), (3, .ref (Z.2.2.1 + 339)), (4, .ref (Z.2.2.1 + 340)), (5, .int (zi x5))] [] μ (fL_law_1946 L xs k28 x5 μ) := by
  obtain ⟨hK, hX, hNc, hR1, hR0⟩ := id hcx
  unfold fL_law_1946
  refine g_aload_n hK 1 rfl rfl dL_law_1946 ?_
  refine g_aload_n hK 0 rfl rfl dL_law_1947 ?_
  refine g_iload hK 5 rfl dL_law_1948 ?_
  refine g_iconst hK dL_law_1950 zki1 ?_
  refine g_iadd hK dL_law_1951 (fun v90 hv90 => ?_)
  refine g_sld hK hX dL_law_1952 (fun _ hl90 => ?_)
  refine g_aload_n hK 3 rfl rfl dL_law_1953 ?_
  refine g_callSW hK hNc (rm := rmL_save) (cb := cb + 0) (sb := sb + 0) (As := [.ref (Z.2.2.1 + 1), .int (zi ((xs (zx v90)).toInt)), .ref (Z.2.2.1 + 339)]) (n := 3) (cL_save K.2.1 hK.2.2.2.2.2.2.2.2.1 Z ((xs (zx v90)).toInt) μ hl90) q_1107 q_1108 q_0 q_1109 rfl (by decide +kernel) (by decide) (Nat.le_of_ble_eq_true rfl) (Nat.le_of_ble_eq_true rfl) (Nat.le_of_ble_eq_true rfl) rfl dL_law_1954 (fun r99 m71 hr99 hpr99 => ?_)
  refine g_istore hK (lv2 := [(0, .ref bS), (1, .ref (Z.2.2.1 + 1)), (2, .ref (Z.2.2.1 + 292)), (3, .ref (Z.2.2.1 + 339)), (4, .ref (Z.2.2.1 + 340)), (5, .int (zi x5)), (6, .int (zi r99))]) [1, 2, 3, 4, 5, 6, 0] rfl (by decide) dL_law_1957 ?_
  refine g_aload_n hK 2 rfl rfl dL_law_1959 ?_
  refine g_aload_n hK 0 rfl rfl dL_law_1960 ?_
  refine g_iload hK 5 rfl dL_law_1961 ?_
  refine g_iconst hK dL_law_1963 zki1 ?_
  refine g_iadd hK dL_law_1964 (fun v91 hv91 => ?_)
  refine g_sld hK hX dL_law_1965 (fun _ hl91 => ?_)
  refine g_callVcl hK (mk := mkI) (rm := rm7_save) (cb := cb + 0) (sb := sb + 0) (As := [.int (zi ((xs (zx v91)).toInt))]) (b := 292) (n := 1) (c7_save K.2.1 hK.2.2.2.2.2.2.2.2.1 Z ((xs (zx v91)).toInt) m71 hl91) rfl (ci := 7) rfl (by decide) kc_292 q_1728 q_1729 q_1730 q_7 q_1731 rfl (by decide +kernel) (by decide) (Nat.le_of_ble_eq_true rfl) (Nat.le_of_ble_eq_true rfl) (Nat.le_of_ble_eq_true rfl) rfl dL_law_1966 (fun r100 m72 hr100 hpr100 => ?_)
  refine g_istore hK (lv2 := [(0, .ref bS), (1, .ref (Z.2.2.1 + 1)), (2, .ref (Z.2.2.1 + 292)), (3, .ref (Z.2.2.1 + 339)), (4, .ref (Z.2.2.1 + 340)), (5, .int (zi x5)), (6, .int (zi r99)), (7, .int (zi r100))]) [1, 2, 3, 4, 5, 6, 7, 0] rfl (by decide) dL_law_1969 ?_
  refine g_aload_n hK 2 rfl rfl dL_law_1971 ?_
  refine g_callVco hK (mk := mkI) (rm := rm7_thrown) (cb := cb + 0) (sb := sb + 0) (As := []) (b := 292) (n := 0) (c7_thrown K.2.1 hK.2.2.2.2.2.2.2.2.1 Z  m72 ) rfl (ci := 7) rfl (by decide) kc_292 q_1306 q_1307 q_1308 q_7 q_1309 rfl (by decide +kernel) (by decide) (Nat.le_of_ble_eq_true rfl) (Nat.le_of_ble_eq_true rfl) (Nat.le_of_ble_eq_true rfl) rfl dL_law_1972 (fun r101 hr101 hpr101 => ?_)
  refine g_iload hK 6 rfl dL_law_1975 ?_
  refine g_icmp_eq hK hpr101 hpr99 (tgt := 1982) (by decide) dL_law_1977 (fun _ => ?_) (fun _ => ?_)
  · refine g_iload hK 6 rfl dL_law_1982 ?_
    refine g_if_ne hK hpr99 (tgt := 1999) (by decide) dL_law_1984 (fun _ => ?_) (fun _ => ?_)
    · refine g_goto hK (tgt := 2058) (by decide) dL_law_1999 ?_
      refine g_lv (lv2 := [(0, .ref bS), (1, .ref (Z.2.2.1 + 1)), (2, .ref (Z.2.2.1 + 292)), (3, .ref (Z.2.2.1 + 339)), (4, .ref (Z.2.2.1 + 340)), (5, .int (zi x5))]) [0, 1, 2, 3, 4, 5] rfl ?_
      exact pL_law_2058 hcx k28 hk28 x5 m72 hx5
    · refine g_aload_n hK 3 rfl rfl dL_law_1987 ?_
      refine g_iconst hK dL_law_1988 zki0 ?_
      refine g_lald hK kc_339 dL_law_1989 (fun _ hl92 => ?_)
      refine g_iload hK 7 rfl dL_law_1990 ?_
      refine g_i2l hK dL_law_1992 hpr100 ?_
      refine g_lcmp hK dL_law_1993 hl92 (zr_64 hpr100) (fun v92 hv92 => ?_)
      refine g_if_eq hK hv92 (tgt := 1999) (by decide) dL_law_1994 (fun _ => ?_) (fun _ => ?_)
      · refine g_goto hK (tgt := 2058) (by decide) dL_law_1999 ?_
        refine g_lv (lv2 := [(0, .ref bS), (1, .ref (Z.2.2.1 + 1)), (2, .ref (Z.2.2.1 + 292)), (3, .ref (Z.2.2.1 + 339)), (4, .ref (Z.2.2.1 + 340)), (5, .int (zi x5))]) [0, 1, 2, 3, 4, 5] rfl ?_
        exact pL_law_2058 hcx k28 hk28 x5 m72 hx5
      · refine g_iconst hK dL_law_1997 zki0 ?_
        exact hR0 dL_law_1998
  · refine g_iconst hK dL_law_1980 zki0 ?_
    exact hR0 dL_law_1981
set_option maxRecDepth 20000 in
set_option maxHeartbeats 2000000 in
theorem pL_law_1184 {K : zK} {Z : zZ} {F : Bool × zM → State → Prop} {bS : Nat} {cb sb : Nat} {L : Nat} {xs : Nat → Int32} (hcx : zOk K Z bL_law R_law 9 (some .boolean) 2048 84000 601024 7293034 ∧ zSX K Z bS L xs ∧ zNc K.2.2.2.2.1 ∧ (∀ {cb sb pc : Nat} {lv : List (Nat × Value)} {μ : zM}, decode bL_law pc = .ok (.ireturn, 1) → zG K Z (zΩ Z) F cb sb pc lv [.int (zi 1)] μ (some (true, μ))) ∧ ∀ {cb sb pc : Nat} {lv : List (Nat × Value)} {μ : zM}, decode bL_law pc = .ok (.ireturn, 1) → zG K Z (zΩ Z) F cb sb pc lv [.int (zi 0)] μ (some (false, μ))) (k28 : Int → zM → Option (Bool × zM)) (hk28 : ∀ (x5 : Int) (μ : zM) (hx5 : zr x5), zG K Z (zΩ Z) F cb sb 28 [(0, .ref bS), (1, .ref (Z.2.2.1 + 1)), (2, .ref (Z.2.2.1 + 292)), (3, .ref (Z.2.2.1 + 339)), (4, .ref (Z.2.2.1 + 340)), (5, .int (zi x5))] [] μ (k28 x5 μ)) (x5 : Int) (μ : zM) (hx5 : zr x5) : zG K Z (zΩ Z) F (cb + 1) (sb + 6) 1184 [(0, .ref bS), (1, .ref (Z.2.2.1 + 1)), (2, .ref (Z.2.2.1 + 292)), (3, .ref (Z.2.2.1 + 339)), (4, .ref (Z.2.2.1 + 340)), (5, .int (zi x5))] [] μ (fL_law_1184 L xs k28 x5 μ) := by
  obtain ⟨hK, hX, hNc, hR1, hR0⟩ := id hcx
  unfold fL_law_1184
  refine g_aload_n hK 1 rfl rfl dL_law_1184 ?_
  refine g_aload_n hK 3 rfl rfl dL_law_1185 ?_
  refine g_callSW hK hNc (rm := rmL_yielded) (cb := cb + 0) (sb := sb + 0) (As := [.ref (Z.2.2.1 + 1), .ref (Z.2.2.1 + 339)]) (n := 2) (cL_yielded K.2.1 hK.2.2.2.2.2.2.2.2.1 Z μ ) q_970 q_971 q_0 q_972 rfl (by decide +kernel) (by decide) (Nat.le_of_ble_eq_true rfl) (Nat.le_of_ble_eq_true rfl) (Nat.le_of_ble_eq_true rfl) rfl dL_law_1186 (fun r51 m35 hr51 hpr51 => ?_)
  refine g_istore hK (lv2 := [(0, .ref bS), (1, .ref (Z.2.2.1 + 1)), (2, .ref (Z.2.2.1 + 292)), (3, .ref (Z.2.2.1 + 339)), (4, .ref (Z.2.2.1 + 340)), (5, .int (zi x5)), (6, .int (zi r51))]) [1, 2, 3, 4, 5, 6, 0] rfl (by decide) dL_law_1189 ?_
  refine g_aload_n hK 2 rfl rfl dL_law_1191 ?_
  refine g_callVcl hK (mk := mkI) (rm := rm7_yielded) (cb := cb + 0) (sb := sb + 0) (As := []) (b := 292) (n := 0) (c7_yielded K.2.1 hK.2.2.2.2.2.2.2.2.1 Z  m35 ) rfl (ci := 7) rfl (by decide) kc_292 q_1606 q_1607 q_1608 q_7 q_1609 rfl (by decide +kernel) (by decide) (Nat.le_of_ble_eq_true rfl) (Nat.le_of_ble_eq_true rfl) (Nat.le_of_ble_eq_true rfl) rfl dL_law_1192 (fun r52 m36 hr52 hpr52 => ?_)
  refine g_istore hK (lv2 := [(0, .ref bS), (1, .ref (Z.2.2.1 + 1)), (2, .ref (Z.2.2.1 + 292)), (3, .ref (Z.2.2.1 + 339)), (4, .ref (Z.2.2.1 + 340)), (5, .int (zi x5)), (6, .int (zi r51)), (7, .int (zi r52))]) [1, 2, 3, 4, 5, 6, 7, 0] rfl (by decide) dL_law_1195 ?_
  refine g_aload_n hK 2 rfl rfl dL_law_1197 ?_
  refine g_callVco hK (mk := mkI) (rm := rm7_thrown) (cb := cb + 0) (sb := sb + 0) (As := []) (b := 292) (n := 0) (c7_thrown K.2.1 hK.2.2.2.2.2.2.2.2.1 Z  m36 ) rfl (ci := 7) rfl (by decide) kc_292 q_1306 q_1307 q_1308 q_7 q_1309 rfl (by decide +kernel) (by decide) (Nat.le_of_ble_eq_true rfl) (Nat.le_of_ble_eq_true rfl) (Nat.le_of_ble_eq_true rfl) rfl dL_law_1198 (fun r53 hr53 hpr53 => ?_)
  refine g_iload hK 6 rfl dL_law_1201 ?_
  refine g_icmp_eq hK hpr53 hpr51 (tgt := 1208) (by decide) dL_law_1203 (fun _ => ?_) (fun _ => ?_)
  · refine g_iload hK 6 rfl dL_law_1208 ?_
    refine g_if_ne hK hpr51 (tgt := 1225) (by decide) dL_law_1210 (fun _ => ?_) (fun _ => ?_)
    · refine g_goto hK (tgt := 2058) (by decide) dL_law_1225 ?_
      refine g_lv (lv2 := [(0, .ref bS), (1, .ref (Z.2.2.1 + 1)), (2, .ref (Z.2.2.1 + 292)), (3, .ref (Z.2.2.1 + 339)), (4, .ref (Z.2.2.1 + 340)), (5, .int (zi x5))]) [0, 1, 2, 3, 4, 5] rfl ?_
      exact pL_law_2058 hcx k28 hk28 x5 m36 hx5
    · refine g_aload_n hK 3 rfl rfl dL_law_1213 ?_
      refine g_iconst hK dL_law_1214 zki0 ?_
      refine g_lald hK kc_339 dL_law_1215 (fun _ hl67 => ?_)
      refine g_iload hK 7 rfl dL_law_1216 ?_
      refine g_i2l hK dL_law_1218 hpr52 ?_
      refine g_lcmp hK dL_law_1219 hl67 (zr_64 hpr52) (fun v67 hv67 => ?_)
      refine g_if_eq hK hv67 (tgt := 1225) (by decide) dL_law_1220 (fun _ => ?_) (fun _ => ?_)
      · refine g_goto hK (tgt := 2058) (by decide) dL_law_1225 ?_
        refine g_lv (lv2 := [(0, .ref bS), (1, .ref (Z.2.2.1 + 1)), (2, .ref (Z.2.2.1 + 292)), (3, .ref (Z.2.2.1 + 339)), (4, .ref (Z.2.2.1 + 340)), (5, .int (zi x5))]) [0, 1, 2, 3, 4, 5] rfl ?_
        exact pL_law_2058 hcx k28 hk28 x5 m36 hx5
      · refine g_iconst hK dL_law_1223 zki0 ?_
        exact hR0 dL_law_1224
  · refine g_iconst hK dL_law_1206 zki0 ?_
    exact hR0 dL_law_1207
set_option maxRecDepth 20000 in
set_option maxHeartbeats 2000000 in
theorem pL_law_1316 {K : zK} {Z : zZ} {F : Bool × zM → State → Prop} {bS : Nat} {cb sb : Nat} {L : Nat} {xs : Nat → Int32} (hcx : zOk K Z bL_law R_law 9 (some .boolean) 2048 84000 601024 7293034 ∧ zSX K Z bS L xs ∧ zNc K.2.2.2.2.1 ∧ (∀ {cb sb pc : Nat} {lv : List (Nat × Value)} {μ : zM}, decode bL_law pc = .ok (.ireturn, 1) → zG K Z (zΩ Z) F cb sb pc lv [.int (zi 1)] μ (some (true, μ))) ∧ ∀ {cb sb pc : Nat} {lv : List (Nat × Value)} {μ : zM}, decode bL_law pc = .ok (.ireturn, 1) → zG K Z (zΩ Z) F cb sb pc lv [.int (zi 0)] μ (some (false, μ))) (k28 : Int → zM → Option (Bool × zM)) (hk28 : ∀ (x5 : Int) (μ : zM) (hx5 : zr x5), zG K Z (zΩ Z) F cb sb 28 [(0, .ref bS), (1, .ref (Z.2.2.1 + 1)), (2, .ref (Z.2.2.1 + 292)), (3, .ref (Z.2.2.1 + 339)), (4, .ref (Z.2.2.1 + 340)), (5, .int (zi x5))] [] μ (k28 x5 μ)) (x5 : Int) (μ : zM) (hx5 : zr x5) : zG K Z (zΩ Z) F (cb + 1) (sb + 6) 1316 [(0, .ref bS), (1, .ref (Z.2.2.1 + 1)), (2, .ref (Z.2.2.1 + 292)), (3, .ref (Z.2.2.1 + 339)), (4, .ref (Z.2.2.1 + 340)), (5, .int (zi x5))] [] μ (fL_law_1316 L xs k28 x5 μ) := by
  obtain ⟨hK, hX, hNc, hR1, hR0⟩ := id hcx
  unfold fL_law_1316
  refine g_aload_n hK 1 rfl rfl dL_law_1316 ?_
  refine g_aload hK 4 rfl dL_law_1317 ?_
  refine g_callSW hK hNc (rm := rmL_untouched) (cb := cb + 0) (sb := sb + 0) (As := [.ref (Z.2.2.1 + 1), .ref (Z.2.2.1 + 340)]) (n := 2) (cL_untouched K.2.1 hK.2.2.2.2.2.2.2.2.1 Z μ ) q_1003 q_1004 q_0 q_1005 rfl (by decide +kernel) (by decide) (Nat.le_of_ble_eq_true rfl) (Nat.le_of_ble_eq_true rfl) (Nat.le_of_ble_eq_true rfl) rfl dL_law_1319 (fun r60 m41 hr60 hpr60 => ?_)
  refine g_istore hK (lv2 := [(0, .ref bS), (1, .ref (Z.2.2.1 + 1)), (2, .ref (Z.2.2.1 + 292)), (3, .ref (Z.2.2.1 + 339)), (4, .ref (Z.2.2.1 + 340)), (5, .int (zi x5)), (6, .int (zi r60))]) [1, 2, 3, 4, 5, 6, 0] rfl (by decide) dL_law_1322 ?_
  refine g_aload_n hK 2 rfl rfl dL_law_1324 ?_
  refine g_callVcl hK (mk := mkF) (rm := rm7_untouched) (cb := cb + 0) (sb := sb + 0) (As := []) (b := 292) (n := 0) (c7_untouched K.2.1 hK.2.2.2.2.2.2.2.2.1 Z  m41 ) rfl (ci := 7) rfl (by decide) kc_292 q_1618 q_1619 q_1620 q_7 q_1621 rfl (by decide +kernel) (by decide) (Nat.le_of_ble_eq_true rfl) (Nat.le_of_ble_eq_true rfl) (Nat.le_of_ble_eq_true rfl) rfl dL_law_1325 (fun r61 m42 hr61 hpr61 => ?_)
  refine g_fstore hK (lv2 := [(0, .ref bS), (1, .ref (Z.2.2.1 + 1)), (2, .ref (Z.2.2.1 + 292)), (3, .ref (Z.2.2.1 + 339)), (4, .ref (Z.2.2.1 + 340)), (5, .int (zi x5)), (6, .int (zi r60)), (7, .float r61)]) [1, 2, 3, 4, 5, 6, 7, 0] rfl (by decide) dL_law_1328 ?_
  refine g_aload_n hK 2 rfl rfl dL_law_1330 ?_
  refine g_callVco hK (mk := mkI) (rm := rm7_thrown) (cb := cb + 0) (sb := sb + 0) (As := []) (b := 292) (n := 0) (c7_thrown K.2.1 hK.2.2.2.2.2.2.2.2.1 Z  m42 ) rfl (ci := 7) rfl (by decide) kc_292 q_1306 q_1307 q_1308 q_7 q_1309 rfl (by decide +kernel) (by decide) (Nat.le_of_ble_eq_true rfl) (Nat.le_of_ble_eq_true rfl) (Nat.le_of_ble_eq_true rfl) rfl dL_law_1331 (fun r62 hr62 hpr62 => ?_)
  refine g_iload hK 6 rfl dL_law_1334 ?_
  refine g_icmp_eq hK hpr62 hpr60 (tgt := 1341) (by decide) dL_law_1336 (fun _ => ?_) (fun _ => ?_)
  · refine g_iload hK 6 rfl dL_law_1341 ?_
    refine g_if_ne hK hpr60 (tgt := 1379) (by decide) dL_law_1343 (fun _ => ?_) (fun _ => ?_)
    · refine g_goto hK (tgt := 2058) (by decide) dL_law_1379 ?_
      refine g_lv (lv2 := [(0, .ref bS), (1, .ref (Z.2.2.1 + 1)), (2, .ref (Z.2.2.1 + 292)), (3, .ref (Z.2.2.1 + 339)), (4, .ref (Z.2.2.1 + 340)), (5, .int (zi x5))]) [0, 1, 2, 3, 4, 5] rfl ?_
      exact pL_law_2058 hcx k28 hk28 x5 m42 hx5
    · refine g_aload hK 4 rfl dL_law_1346 ?_
      refine g_iconst hK dL_law_1348 zki0 ?_
      refine g_dald hK kc_340 dL_law_1349 (fun _ => ?_)
      refine g_fload hK 7 rfl dL_law_1350 ?_
      refine g_gd (fun hg0 => ?_)
      refine g_f2d hK dL_law_1352 hg0 ?_
      refine g_dceq hK (tgt := 1379) dL_law_1353 (by decide) dL_law_1354 ?_
      refine g_goto hK (tgt := 2058) (by decide) dL_law_1379 ?_
      refine g_lv (lv2 := [(0, .ref bS), (1, .ref (Z.2.2.1 + 1)), (2, .ref (Z.2.2.1 + 292)), (3, .ref (Z.2.2.1 + 339)), (4, .ref (Z.2.2.1 + 340)), (5, .int (zi x5))]) [0, 1, 2, 3, 4, 5] rfl ?_
      exact pL_law_2058 hcx k28 hk28 x5 m42 hx5
  · refine g_iconst hK dL_law_1339 zki0 ?_
    exact hR0 dL_law_1340
set_option maxRecDepth 20000 in
set_option maxHeartbeats 2000000 in
theorem pL_law_1447 {K : zK} {Z : zZ} {F : Bool × zM → State → Prop} {bS : Nat} {cb sb : Nat} {L : Nat} {xs : Nat → Int32} (hcx : zOk K Z bL_law R_law 9 (some .boolean) 2048 84000 601024 7293034 ∧ zSX K Z bS L xs ∧ zNc K.2.2.2.2.1 ∧ (∀ {cb sb pc : Nat} {lv : List (Nat × Value)} {μ : zM}, decode bL_law pc = .ok (.ireturn, 1) → zG K Z (zΩ Z) F cb sb pc lv [.int (zi 1)] μ (some (true, μ))) ∧ ∀ {cb sb pc : Nat} {lv : List (Nat × Value)} {μ : zM}, decode bL_law pc = .ok (.ireturn, 1) → zG K Z (zΩ Z) F cb sb pc lv [.int (zi 0)] μ (some (false, μ))) (k28 : Int → zM → Option (Bool × zM)) (hk28 : ∀ (x5 : Int) (μ : zM) (hx5 : zr x5), zG K Z (zΩ Z) F cb sb 28 [(0, .ref bS), (1, .ref (Z.2.2.1 + 1)), (2, .ref (Z.2.2.1 + 292)), (3, .ref (Z.2.2.1 + 339)), (4, .ref (Z.2.2.1 + 340)), (5, .int (zi x5))] [] μ (k28 x5 μ)) (x5 : Int) (μ : zM) (hx5 : zr x5) : zG K Z (zΩ Z) F (cb + 2) (sb + 12) 1447 [(0, .ref bS), (1, .ref (Z.2.2.1 + 1)), (2, .ref (Z.2.2.1 + 292)), (3, .ref (Z.2.2.1 + 339)), (4, .ref (Z.2.2.1 + 340)), (5, .int (zi x5))] [] μ (fL_law_1447 L xs k28 x5 μ) := by
  obtain ⟨hK, hX, hNc, hR1, hR0⟩ := id hcx
  unfold fL_law_1447
  refine g_aload_n hK 1 rfl rfl dL_law_1447 ?_
  refine g_aload_n hK 0 rfl rfl dL_law_1448 ?_
  refine g_iload hK 5 rfl dL_law_1449 ?_
  refine g_iconst hK dL_law_1451 zki1 ?_
  refine g_iadd hK dL_law_1452 (fun v70 hv70 => ?_)
  refine g_sld hK hX dL_law_1453 (fun _ hl70 => ?_)
  refine g_aload_n hK 3 rfl rfl dL_law_1454 ?_
  refine g_callSW hK hNc (rm := rmL_lengthIf) (cb := cb + 0) (sb := sb + 0) (As := [.ref (Z.2.2.1 + 1), .int (zi ((xs (zx v70)).toInt)), .ref (Z.2.2.1 + 339)]) (n := 3) (cL_lengthIf K.2.1 hK.2.2.2.2.2.2.2.2.1 Z ((xs (zx v70)).toInt) μ hl70) q_1022 q_1023 q_0 q_1024 rfl (by decide +kernel) (by decide) (Nat.le_of_ble_eq_true rfl) (Nat.le_of_ble_eq_true rfl) (Nat.le_of_ble_eq_true rfl) rfl dL_law_1455 (fun r66 m45 hr66 hpr66 => ?_)
  refine g_istore hK (lv2 := [(0, .ref bS), (1, .ref (Z.2.2.1 + 1)), (2, .ref (Z.2.2.1 + 292)), (3, .ref (Z.2.2.1 + 339)), (4, .ref (Z.2.2.1 + 340)), (5, .int (zi x5)), (6, .int (zi r66))]) [1, 2, 3, 4, 5, 6, 0] rfl (by decide) dL_law_1458 ?_
  refine g_aload_n hK 2 rfl rfl dL_law_1460 ?_
  refine g_aload_n hK 0 rfl rfl dL_law_1461 ?_
  refine g_iload hK 5 rfl dL_law_1462 ?_
  refine g_iconst hK dL_law_1464 zki1 ?_
  refine g_iadd hK dL_law_1465 (fun v71 hv71 => ?_)
  refine g_sld hK hX dL_law_1466 (fun _ hl71 => ?_)
  refine g_callVcl hK (mk := mkI) (rm := rm7_lengthIf) (cb := cb + 0) (sb := sb + 0) (As := [.int (zi ((xs (zx v71)).toInt))]) (b := 292) (n := 1) (c7_lengthIf K.2.1 hK.2.2.2.2.2.2.2.2.1 Z ((xs (zx v71)).toInt) m45 hl71) rfl (ci := 7) rfl (by decide) kc_292 q_1629 q_1630 q_1631 q_7 q_1632 rfl (by decide +kernel) (by decide) (Nat.le_of_ble_eq_true rfl) (Nat.le_of_ble_eq_true rfl) (Nat.le_of_ble_eq_true rfl) rfl dL_law_1467 (fun r67 m46 hr67 hpr67 => ?_)
  refine g_istore hK (lv2 := [(0, .ref bS), (1, .ref (Z.2.2.1 + 1)), (2, .ref (Z.2.2.1 + 292)), (3, .ref (Z.2.2.1 + 339)), (4, .ref (Z.2.2.1 + 340)), (5, .int (zi x5)), (6, .int (zi r66)), (7, .int (zi r67))]) [1, 2, 3, 4, 5, 6, 7, 0] rfl (by decide) dL_law_1470 ?_
  refine g_aload_n hK 2 rfl rfl dL_law_1472 ?_
  refine g_callVco hK (mk := mkI) (rm := rm7_thrown) (cb := cb + 0) (sb := sb + 0) (As := []) (b := 292) (n := 0) (c7_thrown K.2.1 hK.2.2.2.2.2.2.2.2.1 Z  m46 ) rfl (ci := 7) rfl (by decide) kc_292 q_1306 q_1307 q_1308 q_7 q_1309 rfl (by decide +kernel) (by decide) (Nat.le_of_ble_eq_true rfl) (Nat.le_of_ble_eq_true rfl) (Nat.le_of_ble_eq_true rfl) rfl dL_law_1473 (fun r68 hr68 hpr68 => ?_)
  refine g_iload hK 6 rfl dL_law_1476 ?_
  refine g_icmp_eq hK hpr68 hpr66 (tgt := 1483) (by decide) dL_law_1478 (fun _ => ?_) (fun _ => ?_)
  · refine g_iload hK 6 rfl dL_law_1483 ?_
    refine g_if_ne hK hpr66 (tgt := 1500) (by decide) dL_law_1485 (fun _ => ?_) (fun _ => ?_)
    · refine g_goto hK (tgt := 2058) (by decide) dL_law_1500 ?_
      refine g_lv (lv2 := [(0, .ref bS), (1, .ref (Z.2.2.1 + 1)), (2, .ref (Z.2.2.1 + 292)), (3, .ref (Z.2.2.1 + 339)), (4, .ref (Z.2.2.1 + 340)), (5, .int (zi x5))]) [0, 1, 2, 3, 4, 5] rfl ?_
      exact pL_law_2058 hcx k28 hk28 x5 m46 hx5
    · refine g_aload_n hK 3 rfl rfl dL_law_1488 ?_
      refine g_iconst hK dL_law_1489 zki0 ?_
      refine g_lald hK kc_339 dL_law_1490 (fun _ hl72 => ?_)
      refine g_iload hK 7 rfl dL_law_1491 ?_
      refine g_i2l hK dL_law_1493 hpr67 ?_
      refine g_lcmp hK dL_law_1494 hl72 (zr_64 hpr67) (fun v72 hv72 => ?_)
      refine g_if_eq hK hv72 (tgt := 1500) (by decide) dL_law_1495 (fun _ => ?_) (fun _ => ?_)
      · refine g_goto hK (tgt := 2058) (by decide) dL_law_1500 ?_
        refine g_lv (lv2 := [(0, .ref bS), (1, .ref (Z.2.2.1 + 1)), (2, .ref (Z.2.2.1 + 292)), (3, .ref (Z.2.2.1 + 339)), (4, .ref (Z.2.2.1 + 340)), (5, .int (zi x5))]) [0, 1, 2, 3, 4, 5] rfl ?_
        exact pL_law_2058 hcx k28 hk28 x5 m46 hx5
      · refine g_iconst hK dL_law_1498 zki0 ?_
        exact hR0 dL_law_1499
  · refine g_iconst hK dL_law_1481 zki0 ?_
    exact hR0 dL_law_1482
set_option maxRecDepth 20000 in
set_option maxHeartbeats 2000000 in
theorem pL_law_1835 {K : zK} {Z : zZ} {F : Bool × zM → State → Prop} {bS : Nat} {cb sb : Nat} {L : Nat} {xs : Nat → Int32} (hcx : zOk K Z bL_law R_law 9 (some .boolean) 2048 84000 601024 7293034 ∧ zSX K Z bS L xs ∧ zNc K.2.2.2.2.1 ∧ (∀ {cb sb pc : Nat} {lv : List (Nat × Value)} {μ : zM}, decode bL_law pc = .ok (.ireturn, 1) → zG K Z (zΩ Z) F cb sb pc lv [.int (zi 1)] μ (some (true, μ))) ∧ ∀ {cb sb pc : Nat} {lv : List (Nat × Value)} {μ : zM}, decode bL_law pc = .ok (.ireturn, 1) → zG K Z (zΩ Z) F cb sb pc lv [.int (zi 0)] μ (some (false, μ))) (k28 : Int → zM → Option (Bool × zM)) (hk28 : ∀ (x5 : Int) (μ : zM) (hx5 : zr x5), zG K Z (zΩ Z) F cb sb 28 [(0, .ref bS), (1, .ref (Z.2.2.1 + 1)), (2, .ref (Z.2.2.1 + 292)), (3, .ref (Z.2.2.1 + 339)), (4, .ref (Z.2.2.1 + 340)), (5, .int (zi x5))] [] μ (k28 x5 μ)) (x5 : Int) (μ : zM) (hx5 : zr x5) : zG K Z (zΩ Z) F (cb + 0) (sb + 0) 1835 [(0, .ref bS), (1, .ref (Z.2.2.1 + 1)), (2, .ref (Z.2.2.1 + 292)), (3, .ref (Z.2.2.1 + 339)), (4, .ref (Z.2.2.1 + 340)), (5, .int (zi x5))] [] μ (fL_law_1835 L xs k28 x5 μ) := by
  obtain ⟨hK, hX, hNc, hR1, hR0⟩ := id hcx
  unfold fL_law_1835
  refine g_aload_n hK 1 rfl rfl dL_law_1835 ?_
  refine g_callVcl hK (mk := mkI) (rm := rm5_finish) (cb := cb + 0) (sb := sb + 0) (As := []) (b := 1) (n := 0) (c5_finish K.2.1 hK.2.2.2.2.2.2.2.2.1 Z  μ ) rfl (ci := 5) rfl (by decide) kc_1 q_687 q_688 q_689 q_1 q_690 rfl (by decide +kernel) (by decide) (Nat.le_of_ble_eq_true rfl) (Nat.le_of_ble_eq_true rfl) (Nat.le_of_ble_eq_true rfl) rfl dL_law_1836 (fun r92 m65 hr92 hpr92 => ?_)
  refine g_aload_n hK 2 rfl rfl dL_law_1839 ?_
  refine g_callVcl hK (mk := mkI) (rm := rm7_finish) (cb := cb + 0) (sb := sb + 0) (As := []) (b := 292) (n := 0) (c7_finish K.2.1 hK.2.2.2.2.2.2.2.2.1 Z  m65 ) rfl (ci := 7) rfl (by decide) kc_292 q_1712 q_1713 q_1714 q_7 q_1715 rfl (by decide +kernel) (by decide) (Nat.le_of_ble_eq_true rfl) (Nat.le_of_ble_eq_true rfl) (Nat.le_of_ble_eq_true rfl) rfl dL_law_1840 (fun r93 m66 hr93 hpr93 => ?_)
  refine g_icmp_eq hK hpr92 hpr93 (tgt := 2058) (by decide) dL_law_1843 (fun _ => ?_) (fun _ => ?_)
  · exact pL_law_2058 hcx k28 hk28 x5 m66 hx5
  · refine g_iconst hK dL_law_1846 zki0 ?_
    exact hR0 dL_law_1847
set_option maxRecDepth 20000 in
set_option maxHeartbeats 2000000 in
theorem pL_law_428 {K : zK} {Z : zZ} {F : Bool × zM → State → Prop} {bS : Nat} {cb sb : Nat} {L : Nat} {xs : Nat → Int32} (hcx : zOk K Z bL_law R_law 9 (some .boolean) 2048 84000 601024 7293034 ∧ zSX K Z bS L xs ∧ zNc K.2.2.2.2.1 ∧ (∀ {cb sb pc : Nat} {lv : List (Nat × Value)} {μ : zM}, decode bL_law pc = .ok (.ireturn, 1) → zG K Z (zΩ Z) F cb sb pc lv [.int (zi 1)] μ (some (true, μ))) ∧ ∀ {cb sb pc : Nat} {lv : List (Nat × Value)} {μ : zM}, decode bL_law pc = .ok (.ireturn, 1) → zG K Z (zΩ Z) F cb sb pc lv [.int (zi 0)] μ (some (false, μ))) (k28 : Int → zM → Option (Bool × zM)) (hk28 : ∀ (x5 : Int) (μ : zM) (hx5 : zr x5), zG K Z (zΩ Z) F cb sb 28 [(0, .ref bS), (1, .ref (Z.2.2.1 + 1)), (2, .ref (Z.2.2.1 + 292)), (3, .ref (Z.2.2.1 + 339)), (4, .ref (Z.2.2.1 + 340)), (5, .int (zi x5))] [] μ (k28 x5 μ)) (x5 : Int) (μ : zM) (hx5 : zr x5) : zG K Z (zΩ Z) F (cb + 2) (sb + 12) 428 [(0, .ref bS), (1, .ref (Z.2.2.1 + 1)), (2, .ref (Z.2.2.1 + 292)), (3, .ref (Z.2.2.1 + 339)), (4, .ref (Z.2.2.1 + 340)), (5, .int (zi x5))] [] μ (fL_law_428 L xs k28 x5 μ) := by
  obtain ⟨hK, hX, hNc, hR1, hR0⟩ := id hcx
  unfold fL_law_428
  refine g_aload_n hK 1 rfl rfl dL_law_428 ?_
  refine g_aload_n hK 0 rfl rfl dL_law_429 ?_
  refine g_iload hK 5 rfl dL_law_430 ?_
  refine g_iconst hK dL_law_432 zki1 ?_
  refine g_iadd hK dL_law_433 (fun v17 hv17 => ?_)
  refine g_sld hK hX dL_law_434 (fun _ hl17 => ?_)
  refine g_aload_n hK 0 rfl rfl dL_law_435 ?_
  refine g_iload hK 5 rfl dL_law_436 ?_
  refine g_iconst hK dL_law_438 zki2 ?_
  refine g_iadd hK dL_law_439 (fun v18 hv18 => ?_)
  refine g_sld hK hX dL_law_440 (fun _ hl18 => ?_)
  refine g_aload_n hK 3 rfl rfl dL_law_441 ?_
  refine g_callSW hK hNc (rm := rmL_snippet) (cb := cb + 0) (sb := sb + 0) (As := [.ref (Z.2.2.1 + 1), .int (zi ((xs (zx v17)).toInt)), .int (zi ((xs (zx v18)).toInt)), .ref (Z.2.2.1 + 339)]) (n := 4) (cL_snippet K.2.1 hK.2.2.2.2.2.2.2.2.1 Z ((xs (zx v17)).toInt) ((xs (zx v18)).toInt) μ hl17 hl18) q_806 q_807 q_0 q_808 rfl (by decide +kernel) (by decide) (Nat.le_of_ble_eq_true rfl) (Nat.le_of_ble_eq_true rfl) (Nat.le_of_ble_eq_true rfl) rfl dL_law_442 (fun r15 m11 hr15 hpr15 => ?_)
  refine g_istore hK (lv2 := [(0, .ref bS), (1, .ref (Z.2.2.1 + 1)), (2, .ref (Z.2.2.1 + 292)), (3, .ref (Z.2.2.1 + 339)), (4, .ref (Z.2.2.1 + 340)), (5, .int (zi x5)), (6, .int (zi r15))]) [1, 2, 3, 4, 5, 6, 0] rfl (by decide) dL_law_445 ?_
  refine g_aload_n hK 2 rfl rfl dL_law_447 ?_
  refine g_aload_n hK 0 rfl rfl dL_law_448 ?_
  refine g_iload hK 5 rfl dL_law_449 ?_
  refine g_iconst hK dL_law_451 zki1 ?_
  refine g_iadd hK dL_law_452 (fun v19 hv19 => ?_)
  refine g_sld hK hX dL_law_453 (fun _ hl19 => ?_)
  refine g_aload_n hK 0 rfl rfl dL_law_454 ?_
  refine g_iload hK 5 rfl dL_law_455 ?_
  refine g_iconst hK dL_law_457 zki2 ?_
  refine g_iadd hK dL_law_458 (fun v20 hv20 => ?_)
  refine g_sld hK hX dL_law_459 (fun _ hl20 => ?_)
  refine g_callVcl hK (mk := mkI) (rm := rm7_snippet) (cb := cb + 0) (sb := sb + 0) (As := [.int (zi ((xs (zx v19)).toInt)), .int (zi ((xs (zx v20)).toInt))]) (b := 292) (n := 2) (c7_snippet K.2.1 hK.2.2.2.2.2.2.2.2.1 Z ((xs (zx v19)).toInt) ((xs (zx v20)).toInt) m11 hl19 hl20) rfl (ci := 7) rfl (by decide) kc_292 q_1427 q_1428 q_1429 q_7 q_1430 rfl (by decide +kernel) (by decide) (Nat.le_of_ble_eq_true rfl) (Nat.le_of_ble_eq_true rfl) (Nat.le_of_ble_eq_true rfl) rfl dL_law_460 (fun r16 m12 hr16 hpr16 => ?_)
  refine g_istore hK (lv2 := [(0, .ref bS), (1, .ref (Z.2.2.1 + 1)), (2, .ref (Z.2.2.1 + 292)), (3, .ref (Z.2.2.1 + 339)), (4, .ref (Z.2.2.1 + 340)), (5, .int (zi x5)), (6, .int (zi r15)), (7, .int (zi r16))]) [1, 2, 3, 4, 5, 6, 7, 0] rfl (by decide) dL_law_463 ?_
  refine g_aload_n hK 2 rfl rfl dL_law_465 ?_
  refine g_callVco hK (mk := mkI) (rm := rm7_thrown) (cb := cb + 0) (sb := sb + 0) (As := []) (b := 292) (n := 0) (c7_thrown K.2.1 hK.2.2.2.2.2.2.2.2.1 Z  m12 ) rfl (ci := 7) rfl (by decide) kc_292 q_1306 q_1307 q_1308 q_7 q_1309 rfl (by decide +kernel) (by decide) (Nat.le_of_ble_eq_true rfl) (Nat.le_of_ble_eq_true rfl) (Nat.le_of_ble_eq_true rfl) rfl dL_law_466 (fun r17 hr17 hpr17 => ?_)
  refine g_iload hK 6 rfl dL_law_469 ?_
  refine g_icmp_eq hK hpr17 hpr15 (tgt := 476) (by decide) dL_law_471 (fun _ => ?_) (fun _ => ?_)
  · refine g_iload hK 6 rfl dL_law_476 ?_
    refine g_if_ne hK hpr15 (tgt := 493) (by decide) dL_law_478 (fun _ => ?_) (fun _ => ?_)
    · refine g_goto hK (tgt := 2058) (by decide) dL_law_493 ?_
      refine g_lv (lv2 := [(0, .ref bS), (1, .ref (Z.2.2.1 + 1)), (2, .ref (Z.2.2.1 + 292)), (3, .ref (Z.2.2.1 + 339)), (4, .ref (Z.2.2.1 + 340)), (5, .int (zi x5))]) [0, 1, 2, 3, 4, 5] rfl ?_
      exact pL_law_2058 hcx k28 hk28 x5 m12 hx5
    · refine g_aload_n hK 3 rfl rfl dL_law_481 ?_
      refine g_iconst hK dL_law_482 zki0 ?_
      refine g_lald hK kc_339 dL_law_483 (fun _ hl21 => ?_)
      refine g_iload hK 7 rfl dL_law_484 ?_
      refine g_i2l hK dL_law_486 hpr16 ?_
      refine g_lcmp hK dL_law_487 hl21 (zr_64 hpr16) (fun v21 hv21 => ?_)
      refine g_if_eq hK hv21 (tgt := 493) (by decide) dL_law_488 (fun _ => ?_) (fun _ => ?_)
      · refine g_goto hK (tgt := 2058) (by decide) dL_law_493 ?_
        refine g_lv (lv2 := [(0, .ref bS), (1, .ref (Z.2.2.1 + 1)), (2, .ref (Z.2.2.1 + 292)), (3, .ref (Z.2.2.1 + 339)), (4, .ref (Z.2.2.1 + 340)), (5, .int (zi x5))]) [0, 1, 2, 3, 4, 5] rfl ?_
        exact pL_law_2058 hcx k28 hk28 x5 m12 hx5
      · refine g_iconst hK dL_law_491 zki0 ?_
        exact hR0 dL_law_492
  · refine g_iconst hK dL_law_474 zki0 ?_
    exact hR0 dL_law_475
set_option maxRecDepth 20000 in
set_option maxHeartbeats 2000000 in
theorem pL_law_812 {K : zK} {Z : zZ} {F : Bool × zM → State → Prop} {bS : Nat} {cb sb : Nat} {L : Nat} {xs : Nat → Int32} (hcx : zOk K Z bL_law R_law 9 (some .boolean) 2048 84000 601024 7293034 ∧ zSX K Z bS L xs ∧ zNc K.2.2.2.2.1 ∧ (∀ {cb sb pc : Nat} {lv : List (Nat × Value)} {μ : zM}, decode bL_law pc = .ok (.ireturn, 1) → zG K Z (zΩ Z) F cb sb pc lv [.int (zi 1)] μ (some (true, μ))) ∧ ∀ {cb sb pc : Nat} {lv : List (Nat × Value)} {μ : zM}, decode bL_law pc = .ok (.ireturn, 1) → zG K Z (zΩ Z) F cb sb pc lv [.int (zi 0)] μ (some (false, μ))) (k28 : Int → zM → Option (Bool × zM)) (hk28 : ∀ (x5 : Int) (μ : zM) (hx5 : zr x5), zG K Z (zΩ Z) F cb sb 28 [(0, .ref bS), (1, .ref (Z.2.2.1 + 1)), (2, .ref (Z.2.2.1 + 292)), (3, .ref (Z.2.2.1 + 339)), (4, .ref (Z.2.2.1 + 340)), (5, .int (zi x5))] [] μ (k28 x5 μ)) (x5 : Int) (μ : zM) (hx5 : zr x5) : zG K Z (zΩ Z) F (cb + 3) (sb + 18) 812 [(0, .ref bS), (1, .ref (Z.2.2.1 + 1)), (2, .ref (Z.2.2.1 + 292)), (3, .ref (Z.2.2.1 + 339)), (4, .ref (Z.2.2.1 + 340)), (5, .int (zi x5))] [] μ (fL_law_812 L xs k28 x5 μ) := by
  obtain ⟨hK, hX, hNc, hR1, hR0⟩ := id hcx
  unfold fL_law_812
  refine g_aload_n hK 1 rfl rfl dL_law_812 ?_
  refine g_aload_n hK 0 rfl rfl dL_law_813 ?_
  refine g_iload hK 5 rfl dL_law_814 ?_
  refine g_iconst hK dL_law_816 zki1 ?_
  refine g_iadd hK dL_law_817 (fun v43 hv43 => ?_)
  refine g_sld hK hX dL_law_818 (fun _ hl43 => ?_)
  refine g_aload_n hK 0 rfl rfl dL_law_819 ?_
  refine g_iload hK 5 rfl dL_law_820 ?_
  refine g_iconst hK dL_law_822 zki2 ?_
  refine g_iadd hK dL_law_823 (fun v44 hv44 => ?_)
  refine g_sld hK hX dL_law_824 (fun _ hl44 => ?_)
  refine g_aload_n hK 3 rfl rfl dL_law_825 ?_
  refine g_callSW hK hNc (rm := rmL_field) (cb := cb + 0) (sb := sb + 0) (As := [.ref (Z.2.2.1 + 1), .int (zi ((xs (zx v43)).toInt)), .int (zi ((xs (zx v44)).toInt)), .ref (Z.2.2.1 + 339)]) (n := 4) (cL_field K.2.1 hK.2.2.2.2.2.2.2.2.1 Z ((xs (zx v43)).toInt) ((xs (zx v44)).toInt) μ hl43 hl44) q_894 q_895 q_0 q_896 rfl (by decide +kernel) (by decide) (Nat.le_of_ble_eq_true rfl) (Nat.le_of_ble_eq_true rfl) (Nat.le_of_ble_eq_true rfl) rfl dL_law_826 (fun r33 m23 hr33 hpr33 => ?_)
  refine g_istore hK (lv2 := [(0, .ref bS), (1, .ref (Z.2.2.1 + 1)), (2, .ref (Z.2.2.1 + 292)), (3, .ref (Z.2.2.1 + 339)), (4, .ref (Z.2.2.1 + 340)), (5, .int (zi x5)), (6, .int (zi r33))]) [1, 2, 3, 4, 5, 6, 0] rfl (by decide) dL_law_829 ?_
  refine g_aload_n hK 2 rfl rfl dL_law_831 ?_
  refine g_aload_n hK 0 rfl rfl dL_law_832 ?_
  refine g_iload hK 5 rfl dL_law_833 ?_
  refine g_iconst hK dL_law_835 zki1 ?_
  refine g_iadd hK dL_law_836 (fun v45 hv45 => ?_)
  refine g_sld hK hX dL_law_837 (fun _ hl45 => ?_)
  refine g_aload_n hK 0 rfl rfl dL_law_838 ?_
  refine g_iload hK 5 rfl dL_law_839 ?_
  refine g_iconst hK dL_law_841 zki2 ?_
  refine g_iadd hK dL_law_842 (fun v46 hv46 => ?_)
  refine g_sld hK hX dL_law_843 (fun _ hl46 => ?_)
  refine g_callVcl hK (mk := mkI) (rm := rm7_field) (cb := cb + 0) (sb := sb + 0) (As := [.int (zi ((xs (zx v45)).toInt)), .int (zi ((xs (zx v46)).toInt))]) (b := 292) (n := 2) (c7_field K.2.1 hK.2.2.2.2.2.2.2.2.1 Z ((xs (zx v45)).toInt) ((xs (zx v46)).toInt) m23 hl45 hl46) rfl (ci := 7) rfl (by decide) kc_292 q_1514 q_1515 q_1516 q_7 q_1517 rfl (by decide +kernel) (by decide) (Nat.le_of_ble_eq_true rfl) (Nat.le_of_ble_eq_true rfl) (Nat.le_of_ble_eq_true rfl) rfl dL_law_844 (fun r34 m24 hr34 hpr34 => ?_)
  refine g_istore hK (lv2 := [(0, .ref bS), (1, .ref (Z.2.2.1 + 1)), (2, .ref (Z.2.2.1 + 292)), (3, .ref (Z.2.2.1 + 339)), (4, .ref (Z.2.2.1 + 340)), (5, .int (zi x5)), (6, .int (zi r33)), (7, .int (zi r34))]) [1, 2, 3, 4, 5, 6, 7, 0] rfl (by decide) dL_law_847 ?_
  refine g_aload_n hK 2 rfl rfl dL_law_849 ?_
  refine g_callVco hK (mk := mkI) (rm := rm7_thrown) (cb := cb + 0) (sb := sb + 0) (As := []) (b := 292) (n := 0) (c7_thrown K.2.1 hK.2.2.2.2.2.2.2.2.1 Z  m24 ) rfl (ci := 7) rfl (by decide) kc_292 q_1306 q_1307 q_1308 q_7 q_1309 rfl (by decide +kernel) (by decide) (Nat.le_of_ble_eq_true rfl) (Nat.le_of_ble_eq_true rfl) (Nat.le_of_ble_eq_true rfl) rfl dL_law_850 (fun r35 hr35 hpr35 => ?_)
  refine g_iload hK 6 rfl dL_law_853 ?_
  refine g_icmp_eq hK hpr35 hpr33 (tgt := 860) (by decide) dL_law_855 (fun _ => ?_) (fun _ => ?_)
  · refine g_iload hK 6 rfl dL_law_860 ?_
    refine g_if_ne hK hpr33 (tgt := 877) (by decide) dL_law_862 (fun _ => ?_) (fun _ => ?_)
    · refine g_goto hK (tgt := 2058) (by decide) dL_law_877 ?_
      refine g_lv (lv2 := [(0, .ref bS), (1, .ref (Z.2.2.1 + 1)), (2, .ref (Z.2.2.1 + 292)), (3, .ref (Z.2.2.1 + 339)), (4, .ref (Z.2.2.1 + 340)), (5, .int (zi x5))]) [0, 1, 2, 3, 4, 5] rfl ?_
      exact pL_law_2058 hcx k28 hk28 x5 m24 hx5
    · refine g_aload_n hK 3 rfl rfl dL_law_865 ?_
      refine g_iconst hK dL_law_866 zki0 ?_
      refine g_lald hK kc_339 dL_law_867 (fun _ hl47 => ?_)
      refine g_iload hK 7 rfl dL_law_868 ?_
      refine g_i2l hK dL_law_870 hpr34 ?_
      refine g_lcmp hK dL_law_871 hl47 (zr_64 hpr34) (fun v47 hv47 => ?_)
      refine g_if_eq hK hv47 (tgt := 877) (by decide) dL_law_872 (fun _ => ?_) (fun _ => ?_)
      · refine g_goto hK (tgt := 2058) (by decide) dL_law_877 ?_
        refine g_lv (lv2 := [(0, .ref bS), (1, .ref (Z.2.2.1 + 1)), (2, .ref (Z.2.2.1 + 292)), (3, .ref (Z.2.2.1 + 339)), (4, .ref (Z.2.2.1 + 340)), (5, .int (zi x5))]) [0, 1, 2, 3, 4, 5] rfl ?_
        exact pL_law_2058 hcx k28 hk28 x5 m24 hx5
      · refine g_iconst hK dL_law_875 zki0 ?_
        exact hR0 dL_law_876
  · refine g_iconst hK dL_law_858 zki0 ?_
    exact hR0 dL_law_859
set_option maxRecDepth 20000 in
set_option maxHeartbeats 2000000 in
theorem pL_law_688 {K : zK} {Z : zZ} {F : Bool × zM → State → Prop} {bS : Nat} {cb sb : Nat} {L : Nat} {xs : Nat → Int32} (hcx : zOk K Z bL_law R_law 9 (some .boolean) 2048 84000 601024 7293034 ∧ zSX K Z bS L xs ∧ zNc K.2.2.2.2.1 ∧ (∀ {cb sb pc : Nat} {lv : List (Nat × Value)} {μ : zM}, decode bL_law pc = .ok (.ireturn, 1) → zG K Z (zΩ Z) F cb sb pc lv [.int (zi 1)] μ (some (true, μ))) ∧ ∀ {cb sb pc : Nat} {lv : List (Nat × Value)} {μ : zM}, decode bL_law pc = .ok (.ireturn, 1) → zG K Z (zΩ Z) F cb sb pc lv [.int (zi 0)] μ (some (false, μ))) (k28 : Int → zM → Option (Bool × zM)) (hk28 : ∀ (x5 : Int) (μ : zM) (hx5 : zr x5), zG K Z (zΩ Z) F cb sb 28 [(0, .ref bS), (1, .ref (Z.2.2.1 + 1)), (2, .ref (Z.2.2.1 + 292)), (3, .ref (Z.2.2.1 + 339)), (4, .ref (Z.2.2.1 + 340)), (5, .int (zi x5))] [] μ (k28 x5 μ)) (x5 : Int) (μ : zM) (hx5 : zr x5) : zG K Z (zΩ Z) F (cb + 1) (sb + 6) 688 [(0, .ref bS), (1, .ref (Z.2.2.1 + 1)), (2, .ref (Z.2.2.1 + 292)), (3, .ref (Z.2.2.1 + 339)), (4, .ref (Z.2.2.1 + 340)), (5, .int (zi x5))] [] μ (fL_law_688 L xs k28 x5 μ) := by
  obtain ⟨hK, hX, hNc, hR1, hR0⟩ := id hcx
  unfold fL_law_688
  refine g_aload_n hK 1 rfl rfl dL_law_688 ?_
  refine g_aload_n hK 0 rfl rfl dL_law_689 ?_
  refine g_iload hK 5 rfl dL_law_690 ?_
  refine g_iconst hK dL_law_692 zki1 ?_
  refine g_iadd hK dL_law_693 (fun v35 hv35 => ?_)
  refine g_sld hK hX dL_law_694 (fun _ hl35 => ?_)
  refine g_aload_n hK 0 rfl rfl dL_law_695 ?_
  refine g_iload hK 5 rfl dL_law_696 ?_
  refine g_iconst hK dL_law_698 zki2 ?_
  refine g_iadd hK dL_law_699 (fun v36 hv36 => ?_)
  refine g_sld hK hX dL_law_700 (fun _ hl36 => ?_)
  refine g_aload_n hK 3 rfl rfl dL_law_701 ?_
  refine g_callSW hK hNc (rm := rmL_session) (cb := cb + 0) (sb := sb + 0) (As := [.ref (Z.2.2.1 + 1), .int (zi ((xs (zx v35)).toInt)), .int (zi ((xs (zx v36)).toInt)), .ref (Z.2.2.1 + 339)]) (n := 4) (cL_session K.2.1 hK.2.2.2.2.2.2.2.2.1 Z ((xs (zx v35)).toInt) ((xs (zx v36)).toInt) μ hl35 hl36) q_875 q_876 q_0 q_877 rfl (by decide +kernel) (by decide) (Nat.le_of_ble_eq_true rfl) (Nat.le_of_ble_eq_true rfl) (Nat.le_of_ble_eq_true rfl) rfl dL_law_702 (fun r27 m19 hr27 hpr27 => ?_)
  refine g_istore hK (lv2 := [(0, .ref bS), (1, .ref (Z.2.2.1 + 1)), (2, .ref (Z.2.2.1 + 292)), (3, .ref (Z.2.2.1 + 339)), (4, .ref (Z.2.2.1 + 340)), (5, .int (zi x5)), (6, .int (zi r27))]) [1, 2, 3, 4, 5, 6, 0] rfl (by decide) dL_law_705 ?_
  refine g_aload_n hK 2 rfl rfl dL_law_707 ?_
  refine g_aload_n hK 0 rfl rfl dL_law_708 ?_
  refine g_iload hK 5 rfl dL_law_709 ?_
  refine g_iconst hK dL_law_711 zki1 ?_
  refine g_iadd hK dL_law_712 (fun v37 hv37 => ?_)
  refine g_sld hK hX dL_law_713 (fun _ hl37 => ?_)
  refine g_aload_n hK 0 rfl rfl dL_law_714 ?_
  refine g_iload hK 5 rfl dL_law_715 ?_
  refine g_iconst hK dL_law_717 zki2 ?_
  refine g_iadd hK dL_law_718 (fun v38 hv38 => ?_)
  refine g_sld hK hX dL_law_719 (fun _ hl38 => ?_)
  refine g_callVcl hK (mk := mkI) (rm := rm7_session) (cb := cb + 0) (sb := sb + 0) (As := [.int (zi ((xs (zx v37)).toInt)), .int (zi ((xs (zx v38)).toInt))]) (b := 292) (n := 2) (c7_session K.2.1 hK.2.2.2.2.2.2.2.2.1 Z ((xs (zx v37)).toInt) ((xs (zx v38)).toInt) m19 hl37 hl38) rfl (ci := 7) rfl (by decide) kc_292 q_1463 q_1464 q_1465 q_7 q_1466 rfl (by decide +kernel) (by decide) (Nat.le_of_ble_eq_true rfl) (Nat.le_of_ble_eq_true rfl) (Nat.le_of_ble_eq_true rfl) rfl dL_law_720 (fun r28 m20 hr28 hpr28 => ?_)
  refine g_istore hK (lv2 := [(0, .ref bS), (1, .ref (Z.2.2.1 + 1)), (2, .ref (Z.2.2.1 + 292)), (3, .ref (Z.2.2.1 + 339)), (4, .ref (Z.2.2.1 + 340)), (5, .int (zi x5)), (6, .int (zi r27)), (7, .int (zi r28))]) [1, 2, 3, 4, 5, 6, 7, 0] rfl (by decide) dL_law_723 ?_
  refine g_aload_n hK 2 rfl rfl dL_law_725 ?_
  refine g_callVco hK (mk := mkI) (rm := rm7_thrown) (cb := cb + 0) (sb := sb + 0) (As := []) (b := 292) (n := 0) (c7_thrown K.2.1 hK.2.2.2.2.2.2.2.2.1 Z  m20 ) rfl (ci := 7) rfl (by decide) kc_292 q_1306 q_1307 q_1308 q_7 q_1309 rfl (by decide +kernel) (by decide) (Nat.le_of_ble_eq_true rfl) (Nat.le_of_ble_eq_true rfl) (Nat.le_of_ble_eq_true rfl) rfl dL_law_726 (fun r29 hr29 hpr29 => ?_)
  refine g_iload hK 6 rfl dL_law_729 ?_
  refine g_icmp_eq hK hpr29 hpr27 (tgt := 736) (by decide) dL_law_731 (fun _ => ?_) (fun _ => ?_)
  · refine g_iload hK 6 rfl dL_law_736 ?_
    refine g_if_ne hK hpr27 (tgt := 753) (by decide) dL_law_738 (fun _ => ?_) (fun _ => ?_)
    · refine g_goto hK (tgt := 2058) (by decide) dL_law_753 ?_
      refine g_lv (lv2 := [(0, .ref bS), (1, .ref (Z.2.2.1 + 1)), (2, .ref (Z.2.2.1 + 292)), (3, .ref (Z.2.2.1 + 339)), (4, .ref (Z.2.2.1 + 340)), (5, .int (zi x5))]) [0, 1, 2, 3, 4, 5] rfl ?_
      exact pL_law_2058 hcx k28 hk28 x5 m20 hx5
    · refine g_aload_n hK 3 rfl rfl dL_law_741 ?_
      refine g_iconst hK dL_law_742 zki0 ?_
      refine g_lald hK kc_339 dL_law_743 (fun _ hl39 => ?_)
      refine g_iload hK 7 rfl dL_law_744 ?_
      refine g_i2l hK dL_law_746 hpr28 ?_
      refine g_lcmp hK dL_law_747 hl39 (zr_64 hpr28) (fun v39 hv39 => ?_)
      refine g_if_eq hK hv39 (tgt := 753) (by decide) dL_law_748 (fun _ => ?_) (fun _ => ?_)
      · refine g_goto hK (tgt := 2058) (by decide) dL_law_753 ?_
        refine g_lv (lv2 := [(0, .ref bS), (1, .ref (Z.2.2.1 + 1)), (2, .ref (Z.2.2.1 + 292)), (3, .ref (Z.2.2.1 + 339)), (4, .ref (Z.2.2.1 + 340)), (5, .int (zi x5))]) [0, 1, 2, 3, 4, 5] rfl ?_
        exact pL_law_2058 hcx k28 hk28 x5 m20 hx5
      · refine g_iconst hK dL_law_751 zki0 ?_
        exact hR0 dL_law_752
  · refine g_iconst hK dL_law_734 zki0 ?_
    exact hR0 dL_law_735
set_option maxRecDepth 20000 in
set_option maxHeartbeats 2000000 in
theorem pL_law_1072 {K : zK} {Z : zZ} {F : Bool × zM → State → Prop} {bS : Nat} {cb sb : Nat} {L : Nat} {xs : Nat → Int32} (hcx : zOk K Z bL_law R_law 9 (some .boolean) 2048 84000 601024 7293034 ∧ zSX K Z bS L xs ∧ zNc K.2.2.2.2.1 ∧ (∀ {cb sb pc : Nat} {lv : List (Nat × Value)} {μ : zM}, decode bL_law pc = .ok (.ireturn, 1) → zG K Z (zΩ Z) F cb sb pc lv [.int (zi 1)] μ (some (true, μ))) ∧ ∀ {cb sb pc : Nat} {lv : List (Nat × Value)} {μ : zM}, decode bL_law pc = .ok (.ireturn, 1) → zG K Z (zΩ Z) F cb sb pc lv [.int (zi 0)] μ (some (false, μ))) (k28 : Int → zM → Option (Bool × zM)) (hk28 : ∀ (x5 : Int) (μ : zM) (hx5 : zr x5), zG K Z (zΩ Z) F cb sb 28 [(0, .ref bS), (1, .ref (Z.2.2.1 + 1)), (2, .ref (Z.2.2.1 + 292)), (3, .ref (Z.2.2.1 + 339)), (4, .ref (Z.2.2.1 + 340)), (5, .int (zi x5))] [] μ (k28 x5 μ)) (x5 : Int) (μ : zM) (hx5 : zr x5) : zG K Z (zΩ Z) F (cb + 1) (sb + 6) 1072 [(0, .ref bS), (1, .ref (Z.2.2.1 + 1)), (2, .ref (Z.2.2.1 + 292)), (3, .ref (Z.2.2.1 + 339)), (4, .ref (Z.2.2.1 + 340)), (5, .int (zi x5))] [] μ (fL_law_1072 L xs k28 x5 μ) := by
  obtain ⟨hK, hX, hNc, hR1, hR0⟩ := id hcx
  unfold fL_law_1072
  refine g_aload_n hK 1 rfl rfl dL_law_1072 ?_
  refine g_aload_n hK 0 rfl rfl dL_law_1073 ?_
  refine g_iload hK 5 rfl dL_law_1074 ?_
  refine g_iconst hK dL_law_1076 zki1 ?_
  refine g_iadd hK dL_law_1077 (fun v61 hv61 => ?_)
  refine g_sld hK hX dL_law_1078 (fun _ hl61 => ?_)
  refine g_aload_n hK 3 rfl rfl dL_law_1079 ?_
  refine g_callSW hK hNc (rm := rmL_orderAt) (cb := cb + 0) (sb := sb + 0) (As := [.ref (Z.2.2.1 + 1), .int (zi ((xs (zx v61)).toInt)), .ref (Z.2.2.1 + 339)]) (n := 3) (cL_orderAt K.2.1 hK.2.2.2.2.2.2.2.2.1 Z ((xs (zx v61)).toInt) μ hl61) q_952 q_953 q_0 q_954 rfl (by decide +kernel) (by decide) (Nat.le_of_ble_eq_true rfl) (Nat.le_of_ble_eq_true rfl) (Nat.le_of_ble_eq_true rfl) rfl dL_law_1080 (fun r45 m31 hr45 hpr45 => ?_)
  refine g_istore hK (lv2 := [(0, .ref bS), (1, .ref (Z.2.2.1 + 1)), (2, .ref (Z.2.2.1 + 292)), (3, .ref (Z.2.2.1 + 339)), (4, .ref (Z.2.2.1 + 340)), (5, .int (zi x5)), (6, .int (zi r45))]) [1, 2, 3, 4, 5, 6, 0] rfl (by decide) dL_law_1083 ?_
  refine g_aload_n hK 2 rfl rfl dL_law_1085 ?_
  refine g_aload_n hK 0 rfl rfl dL_law_1086 ?_
  refine g_iload hK 5 rfl dL_law_1087 ?_
  refine g_iconst hK dL_law_1089 zki1 ?_
  refine g_iadd hK dL_law_1090 (fun v62 hv62 => ?_)
  refine g_sld hK hX dL_law_1091 (fun _ hl62 => ?_)
  refine g_callVcl hK (mk := mkI) (rm := rm7_orderAt) (cb := cb + 0) (sb := sb + 0) (As := [.int (zi ((xs (zx v62)).toInt))]) (b := 292) (n := 1) (c7_orderAt K.2.1 hK.2.2.2.2.2.2.2.2.1 Z ((xs (zx v62)).toInt) m31 hl62) rfl (ci := 7) rfl (by decide) kc_292 q_1593 q_1594 q_1595 q_7 q_1596 rfl (by decide +kernel) (by decide) (Nat.le_of_ble_eq_true rfl) (Nat.le_of_ble_eq_true rfl) (Nat.le_of_ble_eq_true rfl) rfl dL_law_1092 (fun r46 m32 hr46 hpr46 => ?_)
  refine g_istore hK (lv2 := [(0, .ref bS), (1, .ref (Z.2.2.1 + 1)), (2, .ref (Z.2.2.1 + 292)), (3, .ref (Z.2.2.1 + 339)), (4, .ref (Z.2.2.1 + 340)), (5, .int (zi x5)), (6, .int (zi r45)), (7, .int (zi r46))]) [1, 2, 3, 4, 5, 6, 7, 0] rfl (by decide) dL_law_1095 ?_
  refine g_aload_n hK 2 rfl rfl dL_law_1097 ?_
  refine g_callVco hK (mk := mkI) (rm := rm7_thrown) (cb := cb + 0) (sb := sb + 0) (As := []) (b := 292) (n := 0) (c7_thrown K.2.1 hK.2.2.2.2.2.2.2.2.1 Z  m32 ) rfl (ci := 7) rfl (by decide) kc_292 q_1306 q_1307 q_1308 q_7 q_1309 rfl (by decide +kernel) (by decide) (Nat.le_of_ble_eq_true rfl) (Nat.le_of_ble_eq_true rfl) (Nat.le_of_ble_eq_true rfl) rfl dL_law_1098 (fun r47 hr47 hpr47 => ?_)
  refine g_iload hK 6 rfl dL_law_1101 ?_
  refine g_icmp_eq hK hpr47 hpr45 (tgt := 1108) (by decide) dL_law_1103 (fun _ => ?_) (fun _ => ?_)
  · refine g_iload hK 6 rfl dL_law_1108 ?_
    refine g_if_ne hK hpr45 (tgt := 1125) (by decide) dL_law_1110 (fun _ => ?_) (fun _ => ?_)
    · refine g_goto hK (tgt := 2058) (by decide) dL_law_1125 ?_
      refine g_lv (lv2 := [(0, .ref bS), (1, .ref (Z.2.2.1 + 1)), (2, .ref (Z.2.2.1 + 292)), (3, .ref (Z.2.2.1 + 339)), (4, .ref (Z.2.2.1 + 340)), (5, .int (zi x5))]) [0, 1, 2, 3, 4, 5] rfl ?_
      exact pL_law_2058 hcx k28 hk28 x5 m32 hx5
    · refine g_aload_n hK 3 rfl rfl dL_law_1113 ?_
      refine g_iconst hK dL_law_1114 zki0 ?_
      refine g_lald hK kc_339 dL_law_1115 (fun _ hl63 => ?_)
      refine g_iload hK 7 rfl dL_law_1116 ?_
      refine g_i2l hK dL_law_1118 hpr46 ?_
      refine g_lcmp hK dL_law_1119 hl63 (zr_64 hpr46) (fun v63 hv63 => ?_)
      refine g_if_eq hK hv63 (tgt := 1125) (by decide) dL_law_1120 (fun _ => ?_) (fun _ => ?_)
      · refine g_goto hK (tgt := 2058) (by decide) dL_law_1125 ?_
        refine g_lv (lv2 := [(0, .ref bS), (1, .ref (Z.2.2.1 + 1)), (2, .ref (Z.2.2.1 + 292)), (3, .ref (Z.2.2.1 + 339)), (4, .ref (Z.2.2.1 + 340)), (5, .int (zi x5))]) [0, 1, 2, 3, 4, 5] rfl ?_
        exact pL_law_2058 hcx k28 hk28 x5 m32 hx5
      · refine g_iconst hK dL_law_1123 zki0 ?_
        exact hR0 dL_law_1124
  · refine g_iconst hK dL_law_1106 zki0 ?_
    exact hR0 dL_law_1107
set_option maxRecDepth 20000 in
set_option maxHeartbeats 2000000 in
theorem pL_law_564 {K : zK} {Z : zZ} {F : Bool × zM → State → Prop} {bS : Nat} {cb sb : Nat} {L : Nat} {xs : Nat → Int32} (hcx : zOk K Z bL_law R_law 9 (some .boolean) 2048 84000 601024 7293034 ∧ zSX K Z bS L xs ∧ zNc K.2.2.2.2.1 ∧ (∀ {cb sb pc : Nat} {lv : List (Nat × Value)} {μ : zM}, decode bL_law pc = .ok (.ireturn, 1) → zG K Z (zΩ Z) F cb sb pc lv [.int (zi 1)] μ (some (true, μ))) ∧ ∀ {cb sb pc : Nat} {lv : List (Nat × Value)} {μ : zM}, decode bL_law pc = .ok (.ireturn, 1) → zG K Z (zΩ Z) F cb sb pc lv [.int (zi 0)] μ (some (false, μ))) (k28 : Int → zM → Option (Bool × zM)) (hk28 : ∀ (x5 : Int) (μ : zM) (hx5 : zr x5), zG K Z (zΩ Z) F cb sb 28 [(0, .ref bS), (1, .ref (Z.2.2.1 + 1)), (2, .ref (Z.2.2.1 + 292)), (3, .ref (Z.2.2.1 + 339)), (4, .ref (Z.2.2.1 + 340)), (5, .int (zi x5))] [] μ (k28 x5 μ)) (x5 : Int) (μ : zM) (hx5 : zr x5) : zG K Z (zΩ Z) F (cb + 2) (sb + 12) 564 [(0, .ref bS), (1, .ref (Z.2.2.1 + 1)), (2, .ref (Z.2.2.1 + 292)), (3, .ref (Z.2.2.1 + 339)), (4, .ref (Z.2.2.1 + 340)), (5, .int (zi x5))] [] μ (fL_law_564 L xs k28 x5 μ) := by
  obtain ⟨hK, hX, hNc, hR1, hR0⟩ := id hcx
  unfold fL_law_564
  refine g_aload_n hK 1 rfl rfl dL_law_564 ?_
  refine g_aload_n hK 0 rfl rfl dL_law_565 ?_
  refine g_iload hK 5 rfl dL_law_566 ?_
  refine g_iconst hK dL_law_568 zki1 ?_
  refine g_iadd hK dL_law_569 (fun v27 hv27 => ?_)
  refine g_sld hK hX dL_law_570 (fun _ hl27 => ?_)
  refine g_aload_n hK 0 rfl rfl dL_law_571 ?_
  refine g_iload hK 5 rfl dL_law_572 ?_
  refine g_iconst hK dL_law_574 zki2 ?_
  refine g_iadd hK dL_law_575 (fun v28 hv28 => ?_)
  refine g_sld hK hX dL_law_576 (fun _ hl28 => ?_)
  refine g_aload_n hK 3 rfl rfl dL_law_577 ?_
  refine g_callSW hK hNc (rm := rmL_depends) (cb := cb + 0) (sb := sb + 0) (As := [.ref (Z.2.2.1 + 1), .int (zi ((xs (zx v27)).toInt)), .int (zi ((xs (zx v28)).toInt)), .ref (Z.2.2.1 + 339)]) (n := 4) (cL_depends K.2.1 hK.2.2.2.2.2.2.2.2.1 Z ((xs (zx v27)).toInt) ((xs (zx v28)).toInt) μ hl27 hl28) q_856 q_857 q_0 q_858 rfl (by decide +kernel) (by decide) (Nat.le_of_ble_eq_true rfl) (Nat.le_of_ble_eq_true rfl) (Nat.le_of_ble_eq_true rfl) rfl dL_law_578 (fun r21 m15 hr21 hpr21 => ?_)
  refine g_istore hK (lv2 := [(0, .ref bS), (1, .ref (Z.2.2.1 + 1)), (2, .ref (Z.2.2.1 + 292)), (3, .ref (Z.2.2.1 + 339)), (4, .ref (Z.2.2.1 + 340)), (5, .int (zi x5)), (6, .int (zi r21))]) [1, 2, 3, 4, 5, 6, 0] rfl (by decide) dL_law_581 ?_
  refine g_aload_n hK 2 rfl rfl dL_law_583 ?_
  refine g_aload_n hK 0 rfl rfl dL_law_584 ?_
  refine g_iload hK 5 rfl dL_law_585 ?_
  refine g_iconst hK dL_law_587 zki1 ?_
  refine g_iadd hK dL_law_588 (fun v29 hv29 => ?_)
  refine g_sld hK hX dL_law_589 (fun _ hl29 => ?_)
  refine g_aload_n hK 0 rfl rfl dL_law_590 ?_
  refine g_iload hK 5 rfl dL_law_591 ?_
  refine g_iconst hK dL_law_593 zki2 ?_
  refine g_iadd hK dL_law_594 (fun v30 hv30 => ?_)
  refine g_sld hK hX dL_law_595 (fun _ hl30 => ?_)
  refine g_callVcl hK (mk := mkI) (rm := rm7_depends) (cb := cb + 0) (sb := sb + 0) (As := [.int (zi ((xs (zx v29)).toInt)), .int (zi ((xs (zx v30)).toInt))]) (b := 292) (n := 2) (c7_depends K.2.1 hK.2.2.2.2.2.2.2.2.1 Z ((xs (zx v29)).toInt) ((xs (zx v30)).toInt) m15 hl29 hl30) rfl (ci := 7) rfl (by decide) kc_292 q_1452 q_1453 q_1454 q_7 q_1455 rfl (by decide +kernel) (by decide) (Nat.le_of_ble_eq_true rfl) (Nat.le_of_ble_eq_true rfl) (Nat.le_of_ble_eq_true rfl) rfl dL_law_596 (fun r22 m16 hr22 hpr22 => ?_)
  refine g_istore hK (lv2 := [(0, .ref bS), (1, .ref (Z.2.2.1 + 1)), (2, .ref (Z.2.2.1 + 292)), (3, .ref (Z.2.2.1 + 339)), (4, .ref (Z.2.2.1 + 340)), (5, .int (zi x5)), (6, .int (zi r21)), (7, .int (zi r22))]) [1, 2, 3, 4, 5, 6, 7, 0] rfl (by decide) dL_law_599 ?_
  refine g_aload_n hK 2 rfl rfl dL_law_601 ?_
  refine g_callVco hK (mk := mkI) (rm := rm7_thrown) (cb := cb + 0) (sb := sb + 0) (As := []) (b := 292) (n := 0) (c7_thrown K.2.1 hK.2.2.2.2.2.2.2.2.1 Z  m16 ) rfl (ci := 7) rfl (by decide) kc_292 q_1306 q_1307 q_1308 q_7 q_1309 rfl (by decide +kernel) (by decide) (Nat.le_of_ble_eq_true rfl) (Nat.le_of_ble_eq_true rfl) (Nat.le_of_ble_eq_true rfl) rfl dL_law_602 (fun r23 hr23 hpr23 => ?_)
  refine g_iload hK 6 rfl dL_law_605 ?_
  refine g_icmp_eq hK hpr23 hpr21 (tgt := 612) (by decide) dL_law_607 (fun _ => ?_) (fun _ => ?_)
  · refine g_iload hK 6 rfl dL_law_612 ?_
    refine g_if_ne hK hpr21 (tgt := 629) (by decide) dL_law_614 (fun _ => ?_) (fun _ => ?_)
    · refine g_goto hK (tgt := 2058) (by decide) dL_law_629 ?_
      refine g_lv (lv2 := [(0, .ref bS), (1, .ref (Z.2.2.1 + 1)), (2, .ref (Z.2.2.1 + 292)), (3, .ref (Z.2.2.1 + 339)), (4, .ref (Z.2.2.1 + 340)), (5, .int (zi x5))]) [0, 1, 2, 3, 4, 5] rfl ?_
      exact pL_law_2058 hcx k28 hk28 x5 m16 hx5
    · refine g_aload_n hK 3 rfl rfl dL_law_617 ?_
      refine g_iconst hK dL_law_618 zki0 ?_
      refine g_lald hK kc_339 dL_law_619 (fun _ hl31 => ?_)
      refine g_iload hK 7 rfl dL_law_620 ?_
      refine g_i2l hK dL_law_622 hpr22 ?_
      refine g_lcmp hK dL_law_623 hl31 (zr_64 hpr22) (fun v31 hv31 => ?_)
      refine g_if_eq hK hv31 (tgt := 629) (by decide) dL_law_624 (fun _ => ?_) (fun _ => ?_)
      · refine g_goto hK (tgt := 2058) (by decide) dL_law_629 ?_
        refine g_lv (lv2 := [(0, .ref bS), (1, .ref (Z.2.2.1 + 1)), (2, .ref (Z.2.2.1 + 292)), (3, .ref (Z.2.2.1 + 339)), (4, .ref (Z.2.2.1 + 340)), (5, .int (zi x5))]) [0, 1, 2, 3, 4, 5] rfl ?_
        exact pL_law_2058 hcx k28 hk28 x5 m16 hx5
      · refine g_iconst hK dL_law_627 zki0 ?_
        exact hR0 dL_law_628
  · refine g_iconst hK dL_law_610 zki0 ?_
    exact hR0 dL_law_611
set_option maxRecDepth 20000 in
set_option maxHeartbeats 2000000 in
theorem pL_law_948 {K : zK} {Z : zZ} {F : Bool × zM → State → Prop} {bS : Nat} {cb sb : Nat} {L : Nat} {xs : Nat → Int32} (hcx : zOk K Z bL_law R_law 9 (some .boolean) 2048 84000 601024 7293034 ∧ zSX K Z bS L xs ∧ zNc K.2.2.2.2.1 ∧ (∀ {cb sb pc : Nat} {lv : List (Nat × Value)} {μ : zM}, decode bL_law pc = .ok (.ireturn, 1) → zG K Z (zΩ Z) F cb sb pc lv [.int (zi 1)] μ (some (true, μ))) ∧ ∀ {cb sb pc : Nat} {lv : List (Nat × Value)} {μ : zM}, decode bL_law pc = .ok (.ireturn, 1) → zG K Z (zΩ Z) F cb sb pc lv [.int (zi 0)] μ (some (false, μ))) (k28 : Int → zM → Option (Bool × zM)) (hk28 : ∀ (x5 : Int) (μ : zM) (hx5 : zr x5), zG K Z (zΩ Z) F cb sb 28 [(0, .ref bS), (1, .ref (Z.2.2.1 + 1)), (2, .ref (Z.2.2.1 + 292)), (3, .ref (Z.2.2.1 + 339)), (4, .ref (Z.2.2.1 + 340)), (5, .int (zi x5))] [] μ (k28 x5 μ)) (x5 : Int) (μ : zM) (hx5 : zr x5) : zG K Z (zΩ Z) F (cb + 2) (sb + 12) 948 [(0, .ref bS), (1, .ref (Z.2.2.1 + 1)), (2, .ref (Z.2.2.1 + 292)), (3, .ref (Z.2.2.1 + 339)), (4, .ref (Z.2.2.1 + 340)), (5, .int (zi x5))] [] μ (fL_law_948 L xs k28 x5 μ) := by
  obtain ⟨hK, hX, hNc, hR1, hR0⟩ := id hcx
  unfold fL_law_948
  refine g_aload_n hK 1 rfl rfl dL_law_948 ?_
  refine g_aload_n hK 0 rfl rfl dL_law_949 ?_
  refine g_iload hK 5 rfl dL_law_950 ?_
  refine g_iconst hK dL_law_952 zki1 ?_
  refine g_iadd hK dL_law_953 (fun v53 hv53 => ?_)
  refine g_sld hK hX dL_law_954 (fun _ hl53 => ?_)
  refine g_aload_n hK 0 rfl rfl dL_law_955 ?_
  refine g_iload hK 5 rfl dL_law_956 ?_
  refine g_iconst hK dL_law_958 zki2 ?_
  refine g_iadd hK dL_law_959 (fun v54 hv54 => ?_)
  refine g_sld hK hX dL_law_960 (fun _ hl54 => ?_)
  refine g_aload_n hK 3 rfl rfl dL_law_961 ?_
  refine g_callSW hK hNc (rm := rmL_occurrence) (cb := cb + 0) (sb := sb + 0) (As := [.ref (Z.2.2.1 + 1), .int (zi ((xs (zx v53)).toInt)), .int (zi ((xs (zx v54)).toInt)), .ref (Z.2.2.1 + 339)]) (n := 4) (cL_occurrence K.2.1 hK.2.2.2.2.2.2.2.2.1 Z ((xs (zx v53)).toInt) ((xs (zx v54)).toInt) μ hl53 hl54) q_927 q_928 q_0 q_929 rfl (by decide +kernel) (by decide) (Nat.le_of_ble_eq_true rfl) (Nat.le_of_ble_eq_true rfl) (Nat.le_of_ble_eq_true rfl) rfl dL_law_962 (fun r39 m27 hr39 hpr39 => ?_)
  refine g_istore hK (lv2 := [(0, .ref bS), (1, .ref (Z.2.2.1 + 1)), (2, .ref (Z.2.2.1 + 292)), (3, .ref (Z.2.2.1 + 339)), (4, .ref (Z.2.2.1 + 340)), (5, .int (zi x5)), (6, .int (zi r39))]) [1, 2, 3, 4, 5, 6, 0] rfl (by decide) dL_law_965 ?_
  refine g_aload_n hK 2 rfl rfl dL_law_967 ?_
  refine g_aload_n hK 0 rfl rfl dL_law_968 ?_
  refine g_iload hK 5 rfl dL_law_969 ?_
  refine g_iconst hK dL_law_971 zki1 ?_
  refine g_iadd hK dL_law_972 (fun v55 hv55 => ?_)
  refine g_sld hK hX dL_law_973 (fun _ hl55 => ?_)
  refine g_aload_n hK 0 rfl rfl dL_law_974 ?_
  refine g_iload hK 5 rfl dL_law_975 ?_
  refine g_iconst hK dL_law_977 zki2 ?_
  refine g_iadd hK dL_law_978 (fun v56 hv56 => ?_)
  refine g_sld hK hX dL_law_979 (fun _ hl56 => ?_)
  refine g_callVcl hK (mk := mkI) (rm := rm7_occurrence) (cb := cb + 0) (sb := sb + 0) (As := [.int (zi ((xs (zx v55)).toInt)), .int (zi ((xs (zx v56)).toInt))]) (b := 292) (n := 2) (c7_occurrence K.2.1 hK.2.2.2.2.2.2.2.2.1 Z ((xs (zx v55)).toInt) ((xs (zx v56)).toInt) m27 hl55 hl56) rfl (ci := 7) rfl (by decide) kc_292 q_1573 q_1574 q_1575 q_7 q_1576 rfl (by decide +kernel) (by decide) (Nat.le_of_ble_eq_true rfl) (Nat.le_of_ble_eq_true rfl) (Nat.le_of_ble_eq_true rfl) rfl dL_law_980 (fun r40 m28 hr40 hpr40 => ?_)
  refine g_istore hK (lv2 := [(0, .ref bS), (1, .ref (Z.2.2.1 + 1)), (2, .ref (Z.2.2.1 + 292)), (3, .ref (Z.2.2.1 + 339)), (4, .ref (Z.2.2.1 + 340)), (5, .int (zi x5)), (6, .int (zi r39)), (7, .int (zi r40))]) [1, 2, 3, 4, 5, 6, 7, 0] rfl (by decide) dL_law_983 ?_
  refine g_aload_n hK 2 rfl rfl dL_law_985 ?_
  refine g_callVco hK (mk := mkI) (rm := rm7_thrown) (cb := cb + 0) (sb := sb + 0) (As := []) (b := 292) (n := 0) (c7_thrown K.2.1 hK.2.2.2.2.2.2.2.2.1 Z  m28 ) rfl (ci := 7) rfl (by decide) kc_292 q_1306 q_1307 q_1308 q_7 q_1309 rfl (by decide +kernel) (by decide) (Nat.le_of_ble_eq_true rfl) (Nat.le_of_ble_eq_true rfl) (Nat.le_of_ble_eq_true rfl) rfl dL_law_986 (fun r41 hr41 hpr41 => ?_)
  refine g_iload hK 6 rfl dL_law_989 ?_
  refine g_icmp_eq hK hpr41 hpr39 (tgt := 996) (by decide) dL_law_991 (fun _ => ?_) (fun _ => ?_)
  · refine g_iload hK 6 rfl dL_law_996 ?_
    refine g_if_ne hK hpr39 (tgt := 1013) (by decide) dL_law_998 (fun _ => ?_) (fun _ => ?_)
    · refine g_goto hK (tgt := 2058) (by decide) dL_law_1013 ?_
      refine g_lv (lv2 := [(0, .ref bS), (1, .ref (Z.2.2.1 + 1)), (2, .ref (Z.2.2.1 + 292)), (3, .ref (Z.2.2.1 + 339)), (4, .ref (Z.2.2.1 + 340)), (5, .int (zi x5))]) [0, 1, 2, 3, 4, 5] rfl ?_
      exact pL_law_2058 hcx k28 hk28 x5 m28 hx5
    · refine g_aload_n hK 3 rfl rfl dL_law_1001 ?_
      refine g_iconst hK dL_law_1002 zki0 ?_
      refine g_lald hK kc_339 dL_law_1003 (fun _ hl57 => ?_)
      refine g_iload hK 7 rfl dL_law_1004 ?_
      refine g_i2l hK dL_law_1006 hpr40 ?_
      refine g_lcmp hK dL_law_1007 hl57 (zr_64 hpr40) (fun v57 hv57 => ?_)
      refine g_if_eq hK hv57 (tgt := 1013) (by decide) dL_law_1008 (fun _ => ?_) (fun _ => ?_)
      · refine g_goto hK (tgt := 2058) (by decide) dL_law_1013 ?_
        refine g_lv (lv2 := [(0, .ref bS), (1, .ref (Z.2.2.1 + 1)), (2, .ref (Z.2.2.1 + 292)), (3, .ref (Z.2.2.1 + 339)), (4, .ref (Z.2.2.1 + 340)), (5, .int (zi x5))]) [0, 1, 2, 3, 4, 5] rfl ?_
        exact pL_law_2058 hcx k28 hk28 x5 m28 hx5
      · refine g_iconst hK dL_law_1011 zki0 ?_
        exact hR0 dL_law_1012
  · refine g_iconst hK dL_law_994 zki0 ?_
    exact hR0 dL_law_995
set_option maxRecDepth 20000 in
set_option maxHeartbeats 2000000 in
theorem pL_law_1848 {K : zK} {Z : zZ} {F : Bool × zM → State → Prop} {bS : Nat} {cb sb : Nat} {L : Nat} {xs : Nat → Int32} (hcx : zOk K Z bL_law R_law 9 (some .boolean) 2048 84000 601024 7293034 ∧ zSX K Z bS L xs ∧ zNc K.2.2.2.2.1 ∧ (∀ {cb sb pc : Nat} {lv : List (Nat × Value)} {μ : zM}, decode bL_law pc = .ok (.ireturn, 1) → zG K Z (zΩ Z) F cb sb pc lv [.int (zi 1)] μ (some (true, μ))) ∧ ∀ {cb sb pc : Nat} {lv : List (Nat × Value)} {μ : zM}, decode bL_law pc = .ok (.ireturn, 1) → zG K Z (zΩ Z) F cb sb pc lv [.int (zi 0)] μ (some (false, μ))) (k28 : Int → zM → Option (Bool × zM)) (hk28 : ∀ (x5 : Int) (μ : zM) (hx5 : zr x5), zG K Z (zΩ Z) F cb sb 28 [(0, .ref bS), (1, .ref (Z.2.2.1 + 1)), (2, .ref (Z.2.2.1 + 292)), (3, .ref (Z.2.2.1 + 339)), (4, .ref (Z.2.2.1 + 340)), (5, .int (zi x5))] [] μ (k28 x5 μ)) (x5 : Int) (μ : zM) (hx5 : zr x5) : zG K Z (zΩ Z) F (cb + 0) (sb + 0) 1848 [(0, .ref bS), (1, .ref (Z.2.2.1 + 1)), (2, .ref (Z.2.2.1 + 292)), (3, .ref (Z.2.2.1 + 339)), (4, .ref (Z.2.2.1 + 340)), (5, .int (zi x5))] [] μ (fL_law_1848 L xs k28 x5 μ) := by
  obtain ⟨hK, hX, hNc, hR1, hR0⟩ := id hcx
  unfold fL_law_1848
  refine g_aload_n hK 1 rfl rfl dL_law_1848 ?_
  refine g_callVcl hK (mk := mkI) (rm := rm5_drop) (cb := cb + 0) (sb := sb + 0) (As := []) (b := 1) (n := 0) (c5_drop K.2.1 hK.2.2.2.2.2.2.2.2.1 Z  μ ) rfl (ci := 5) rfl (by decide) kc_1 q_691 q_692 q_693 q_1 q_694 rfl (by decide +kernel) (by decide) (Nat.le_of_ble_eq_true rfl) (Nat.le_of_ble_eq_true rfl) (Nat.le_of_ble_eq_true rfl) rfl dL_law_1849 (fun r94 m67 hr94 hpr94 => ?_)
  refine g_aload_n hK 2 rfl rfl dL_law_1852 ?_
  refine g_callVcl hK (mk := mkI) (rm := rm7_drop) (cb := cb + 0) (sb := sb + 0) (As := []) (b := 292) (n := 0) (c7_drop K.2.1 hK.2.2.2.2.2.2.2.2.1 Z  m67 ) rfl (ci := 7) rfl (by decide) kc_292 q_1716 q_1717 q_1718 q_7 q_1719 rfl (by decide +kernel) (by decide) (Nat.le_of_ble_eq_true rfl) (Nat.le_of_ble_eq_true rfl) (Nat.le_of_ble_eq_true rfl) rfl dL_law_1853 (fun r95 m68 hr95 hpr95 => ?_)
  refine g_icmp_eq hK hpr94 hpr95 (tgt := 2058) (by decide) dL_law_1856 (fun _ => ?_) (fun _ => ?_)
  · exact pL_law_2058 hcx k28 hk28 x5 m68 hx5
  · refine g_iconst hK dL_law_1859 zki0 ?_
    exact hR0 dL_law_1860
set_option maxRecDepth 20000 in
set_option maxHeartbeats 2000000 in
theorem pL_law_1727 {K : zK} {Z : zZ} {F : Bool × zM → State → Prop} {bS : Nat} {cb sb : Nat} {L : Nat} {xs : Nat → Int32} (hcx : zOk K Z bL_law R_law 9 (some .boolean) 2048 84000 601024 7293034 ∧ zSX K Z bS L xs ∧ zNc K.2.2.2.2.1 ∧ (∀ {cb sb pc : Nat} {lv : List (Nat × Value)} {μ : zM}, decode bL_law pc = .ok (.ireturn, 1) → zG K Z (zΩ Z) F cb sb pc lv [.int (zi 1)] μ (some (true, μ))) ∧ ∀ {cb sb pc : Nat} {lv : List (Nat × Value)} {μ : zM}, decode bL_law pc = .ok (.ireturn, 1) → zG K Z (zΩ Z) F cb sb pc lv [.int (zi 0)] μ (some (false, μ))) (k28 : Int → zM → Option (Bool × zM)) (hk28 : ∀ (x5 : Int) (μ : zM) (hx5 : zr x5), zG K Z (zΩ Z) F cb sb 28 [(0, .ref bS), (1, .ref (Z.2.2.1 + 1)), (2, .ref (Z.2.2.1 + 292)), (3, .ref (Z.2.2.1 + 339)), (4, .ref (Z.2.2.1 + 340)), (5, .int (zi x5))] [] μ (k28 x5 μ)) (x5 : Int) (μ : zM) (hx5 : zr x5) : zG K Z (zΩ Z) F (cb + 0) (sb + 0) 1727 [(0, .ref bS), (1, .ref (Z.2.2.1 + 1)), (2, .ref (Z.2.2.1 + 292)), (3, .ref (Z.2.2.1 + 339)), (4, .ref (Z.2.2.1 + 340)), (5, .int (zi x5))] [] μ (fL_law_1727 L xs k28 x5 μ) := by
  obtain ⟨hK, hX, hNc, hR1, hR0⟩ := id hcx
  unfold fL_law_1727
  refine g_aload_n hK 1 rfl rfl dL_law_1727 ?_
  refine g_callVcl hK (mk := mkI) (rm := rm5_erase) (cb := cb + 0) (sb := sb + 0) (As := []) (b := 1) (n := 0) (c5_erase K.2.1 hK.2.2.2.2.2.2.2.2.1 Z  μ ) rfl (ci := 5) rfl (by decide) kc_1 q_505 q_506 q_507 q_1 q_508 rfl (by decide +kernel) (by decide) (Nat.le_of_ble_eq_true rfl) (Nat.le_of_ble_eq_true rfl) (Nat.le_of_ble_eq_true rfl) rfl dL_law_1728 (fun r81 m55 hr81 hpr81 => ?_)
  refine g_aload_n hK 2 rfl rfl dL_law_1731 ?_
  refine g_callVcl hK (mk := mkI) (rm := rm7_erase) (cb := cb + 0) (sb := sb + 0) (As := []) (b := 292) (n := 0) (c7_erase K.2.1 hK.2.2.2.2.2.2.2.2.1 Z  m55 ) rfl (ci := 7) rfl (by decide) kc_292 q_1688 q_1689 q_1690 q_7 q_1691 rfl (by decide +kernel) (by decide) (Nat.le_of_ble_eq_true rfl) (Nat.le_of_ble_eq_true rfl) (Nat.le_of_ble_eq_true rfl) rfl dL_law_1732 (fun r82 m56 hr82 hpr82 => ?_)
  refine g_icmp_eq hK hpr81 hpr82 (tgt := 2058) (by decide) dL_law_1735 (fun _ => ?_) (fun _ => ?_)
  · exact pL_law_2058 hcx k28 hk28 x5 m56 hx5
  · refine g_iconst hK dL_law_1738 zki0 ?_
    exact hR0 dL_law_1739
set_option maxRecDepth 20000 in
set_option maxHeartbeats 2000000 in
theorem pL_law_320 {K : zK} {Z : zZ} {F : Bool × zM → State → Prop} {bS : Nat} {cb sb : Nat} {L : Nat} {xs : Nat → Int32} (hcx : zOk K Z bL_law R_law 9 (some .boolean) 2048 84000 601024 7293034 ∧ zSX K Z bS L xs ∧ zNc K.2.2.2.2.1 ∧ (∀ {cb sb pc : Nat} {lv : List (Nat × Value)} {μ : zM}, decode bL_law pc = .ok (.ireturn, 1) → zG K Z (zΩ Z) F cb sb pc lv [.int (zi 1)] μ (some (true, μ))) ∧ ∀ {cb sb pc : Nat} {lv : List (Nat × Value)} {μ : zM}, decode bL_law pc = .ok (.ireturn, 1) → zG K Z (zΩ Z) F cb sb pc lv [.int (zi 0)] μ (some (false, μ))) (k28 : Int → zM → Option (Bool × zM)) (hk28 : ∀ (x5 : Int) (μ : zM) (hx5 : zr x5), zG K Z (zΩ Z) F cb sb 28 [(0, .ref bS), (1, .ref (Z.2.2.1 + 1)), (2, .ref (Z.2.2.1 + 292)), (3, .ref (Z.2.2.1 + 339)), (4, .ref (Z.2.2.1 + 340)), (5, .int (zi x5))] [] μ (k28 x5 μ)) (x5 : Int) (μ : zM) (hx5 : zr x5) : zG K Z (zΩ Z) F (cb + 0) (sb + 0) 320 [(0, .ref bS), (1, .ref (Z.2.2.1 + 1)), (2, .ref (Z.2.2.1 + 292)), (3, .ref (Z.2.2.1 + 339)), (4, .ref (Z.2.2.1 + 340)), (5, .int (zi x5))] [] μ (fL_law_320 L xs k28 x5 μ) := by
  obtain ⟨hK, hX, hNc, hR1, hR0⟩ := id hcx
  unfold fL_law_320
  refine g_aload_n hK 1 rfl rfl dL_law_320 ?_
  refine g_callVcl hK (mk := mkI) (rm := rm5_load) (cb := cb + 0) (sb := sb + 0) (As := []) (b := 1) (n := 0) (c5_load K.2.1 hK.2.2.2.2.2.2.2.2.1 Z  μ ) rfl (ci := 5) rfl (by decide) kc_1 q_324 q_325 q_326 q_1 q_327 rfl (by decide +kernel) (by decide) (Nat.le_of_ble_eq_true rfl) (Nat.le_of_ble_eq_true rfl) (Nat.le_of_ble_eq_true rfl) rfl dL_law_321 (fun r4 m3 hr4 hpr4 => ?_)
  refine g_aload_n hK 2 rfl rfl dL_law_324 ?_
  refine g_callVcl hK (mk := mkI) (rm := rm7_load) (cb := cb + 0) (sb := sb + 0) (As := []) (b := 292) (n := 0) (c7_load K.2.1 hK.2.2.2.2.2.2.2.2.1 Z  m3 ) rfl (ci := 7) rfl (by decide) kc_292 q_1325 q_1326 q_1327 q_7 q_1328 rfl (by decide +kernel) (by decide) (Nat.le_of_ble_eq_true rfl) (Nat.le_of_ble_eq_true rfl) (Nat.le_of_ble_eq_true rfl) rfl dL_law_325 (fun r5 m4 hr5 hpr5 => ?_)
  refine g_icmp_eq hK hpr4 hpr5 (tgt := 2058) (by decide) dL_law_328 (fun _ => ?_) (fun _ => ?_)
  · exact pL_law_2058 hcx k28 hk28 x5 m4 hx5
  · refine g_iconst hK dL_law_331 zki0 ?_
    exact hR0 dL_law_332
set_option maxRecDepth 20000 in
set_option maxHeartbeats 2000000 in
theorem pL_law_1894 {K : zK} {Z : zZ} {F : Bool × zM → State → Prop} {bS : Nat} {cb sb : Nat} {L : Nat} {xs : Nat → Int32} (hcx : zOk K Z bL_law R_law 9 (some .boolean) 2048 84000 601024 7293034 ∧ zSX K Z bS L xs ∧ zNc K.2.2.2.2.1 ∧ (∀ {cb sb pc : Nat} {lv : List (Nat × Value)} {μ : zM}, decode bL_law pc = .ok (.ireturn, 1) → zG K Z (zΩ Z) F cb sb pc lv [.int (zi 1)] μ (some (true, μ))) ∧ ∀ {cb sb pc : Nat} {lv : List (Nat × Value)} {μ : zM}, decode bL_law pc = .ok (.ireturn, 1) → zG K Z (zΩ Z) F cb sb pc lv [.int (zi 0)] μ (some (false, μ))) (k28 : Int → zM → Option (Bool × zM)) (hk28 : ∀ (x5 : Int) (μ : zM) (hx5 : zr x5), zG K Z (zΩ Z) F cb sb 28 [(0, .ref bS), (1, .ref (Z.2.2.1 + 1)), (2, .ref (Z.2.2.1 + 292)), (3, .ref (Z.2.2.1 + 339)), (4, .ref (Z.2.2.1 + 340)), (5, .int (zi x5))] [] μ (k28 x5 μ)) (x5 : Int) (s0 : Int) (s2 : Int) (μ : zM) (hx5 : zr x5) (hs0 : zr s0) (hs2 : zr s2) : zG K Z (zΩ Z) F (cb + 0) (sb + 0) 1894 [(0, .ref bS), (1, .ref (Z.2.2.1 + 1)), (2, .ref (Z.2.2.1 + 292)), (3, .ref (Z.2.2.1 + 339)), (4, .ref (Z.2.2.1 + 340)), (5, .int (zi x5))] [.int (zi s0), .ref (Z.2.2.1 + 292), .int (zi s2)] μ (fL_law_1894 L xs k28 x5 s0 s2 μ) := by
  obtain ⟨hK, hX, hNc, hR1, hR0⟩ := id hcx
  unfold fL_law_1894
  refine g_callVcl hK (mk := mkI) (rm := rm7_setOrder) (cb := cb + 0) (sb := sb + 0) (As := [.int (zi s0)]) (b := 292) (n := 1) (c7_setOrder K.2.1 hK.2.2.2.2.2.2.2.2.1 Z s0 μ hs0) rfl (ci := 7) rfl (by decide) kc_292 q_1720 q_1721 q_1722 q_7 q_1723 rfl (by decide +kernel) (by decide) (Nat.le_of_ble_eq_true rfl) (Nat.le_of_ble_eq_true rfl) (Nat.le_of_ble_eq_true rfl) rfl dL_law_1894 (fun r106 m76 hr106 hpr106 => ?_)
  refine g_icmp_eq hK hs2 hpr106 (tgt := 2058) (by decide) dL_law_1897 (fun _ => ?_) (fun _ => ?_)
  · exact pL_law_2058 hcx k28 hk28 x5 m76 hx5
  · refine g_iconst hK dL_law_1900 zki0 ?_
    exact hR0 dL_law_1901
set_option maxRecDepth 20000 in
set_option maxHeartbeats 2000000 in
theorem pL_law_1876 {K : zK} {Z : zZ} {F : Bool × zM → State → Prop} {bS : Nat} {cb sb : Nat} {L : Nat} {xs : Nat → Int32} (hcx : zOk K Z bL_law R_law 9 (some .boolean) 2048 84000 601024 7293034 ∧ zSX K Z bS L xs ∧ zNc K.2.2.2.2.1 ∧ (∀ {cb sb pc : Nat} {lv : List (Nat × Value)} {μ : zM}, decode bL_law pc = .ok (.ireturn, 1) → zG K Z (zΩ Z) F cb sb pc lv [.int (zi 1)] μ (some (true, μ))) ∧ ∀ {cb sb pc : Nat} {lv : List (Nat × Value)} {μ : zM}, decode bL_law pc = .ok (.ireturn, 1) → zG K Z (zΩ Z) F cb sb pc lv [.int (zi 0)] μ (some (false, μ))) (k28 : Int → zM → Option (Bool × zM)) (hk28 : ∀ (x5 : Int) (μ : zM) (hx5 : zr x5), zG K Z (zΩ Z) F cb sb 28 [(0, .ref bS), (1, .ref (Z.2.2.1 + 1)), (2, .ref (Z.2.2.1 + 292)), (3, .ref (Z.2.2.1 + 339)), (4, .ref (Z.2.2.1 + 340)), (5, .int (zi x5))] [] μ (k28 x5 μ)) (x5 : Int) (s0 : Int) (μ : zM) (hx5 : zr x5) (hs0 : zr s0) : zG K Z (zΩ Z) F (cb + 0) (sb + 0) 1876 [(0, .ref bS), (1, .ref (Z.2.2.1 + 1)), (2, .ref (Z.2.2.1 + 292)), (3, .ref (Z.2.2.1 + 339)), (4, .ref (Z.2.2.1 + 340)), (5, .int (zi x5))] [.int (zi s0), .ref (Z.2.2.1 + 1)] μ (fL_law_1876 L xs k28 x5 s0 μ) := by
  obtain ⟨hK, hX, hNc, hR1, hR0⟩ := id hcx
  unfold fL_law_1876
  refine g_callVcl hK (mk := mkI) (rm := rm5_setOrder) (cb := cb + 0) (sb := sb + 0) (As := [.int (zi s0)]) (b := 1) (n := 1) (c5_setOrder K.2.1 hK.2.2.2.2.2.2.2.2.1 Z s0 μ hs0) rfl (ci := 5) rfl (by decide) kc_1 q_695 q_696 q_697 q_1 q_698 rfl (by decide +kernel) (by decide) (Nat.le_of_ble_eq_true rfl) (Nat.le_of_ble_eq_true rfl) (Nat.le_of_ble_eq_true rfl) rfl dL_law_1876 (fun r105 m75 hr105 hpr105 => ?_)
  refine g_aload_n hK 2 rfl rfl dL_law_1879 ?_
  refine g_aload_n hK 0 rfl rfl dL_law_1880 ?_
  refine g_iload hK 5 rfl dL_law_1881 ?_
  refine g_iconst hK dL_law_1883 zki1 ?_
  refine g_iadd hK dL_law_1884 (fun v97 hv97 => ?_)
  refine g_sld hK hX dL_law_1885 (fun _ hl96 => ?_)
  refine g_if_eq hK hl96 (tgt := 1893) (by decide) dL_law_1886 (fun _ => ?_) (fun _ => ?_)
  · refine g_iconst hK dL_law_1893 zki0 ?_
    exact pL_law_1894 hcx k28 hk28 x5 0 r105 m75 hx5 zc0 hpr105
  · refine g_iconst hK dL_law_1889 zki1 ?_
    refine g_goto hK (tgt := 1894) (by decide) dL_law_1890 ?_
    exact pL_law_1894 hcx k28 hk28 x5 1 r105 m75 hx5 zc1 hpr105
set_option maxRecDepth 20000 in
set_option maxHeartbeats 2000000 in
theorem pL_law_1861 {K : zK} {Z : zZ} {F : Bool × zM → State → Prop} {bS : Nat} {cb sb : Nat} {L : Nat} {xs : Nat → Int32} (hcx : zOk K Z bL_law R_law 9 (some .boolean) 2048 84000 601024 7293034 ∧ zSX K Z bS L xs ∧ zNc K.2.2.2.2.1 ∧ (∀ {cb sb pc : Nat} {lv : List (Nat × Value)} {μ : zM}, decode bL_law pc = .ok (.ireturn, 1) → zG K Z (zΩ Z) F cb sb pc lv [.int (zi 1)] μ (some (true, μ))) ∧ ∀ {cb sb pc : Nat} {lv : List (Nat × Value)} {μ : zM}, decode bL_law pc = .ok (.ireturn, 1) → zG K Z (zΩ Z) F cb sb pc lv [.int (zi 0)] μ (some (false, μ))) (k28 : Int → zM → Option (Bool × zM)) (hk28 : ∀ (x5 : Int) (μ : zM) (hx5 : zr x5), zG K Z (zΩ Z) F cb sb 28 [(0, .ref bS), (1, .ref (Z.2.2.1 + 1)), (2, .ref (Z.2.2.1 + 292)), (3, .ref (Z.2.2.1 + 339)), (4, .ref (Z.2.2.1 + 340)), (5, .int (zi x5))] [] μ (k28 x5 μ)) (x5 : Int) (μ : zM) (hx5 : zr x5) : zG K Z (zΩ Z) F (cb + 0) (sb + 0) 1861 [(0, .ref bS), (1, .ref (Z.2.2.1 + 1)), (2, .ref (Z.2.2.1 + 292)), (3, .ref (Z.2.2.1 + 339)), (4, .ref (Z.2.2.1 + 340)), (5, .int (zi x5))] [] μ (fL_law_1861 L xs k28 x5 μ) := by
  obtain ⟨hK, hX, hNc, hR1, hR0⟩ := id hcx
  unfold fL_law_1861
  refine g_aload_n hK 1 rfl rfl dL_law_1861 ?_
  refine g_aload_n hK 0 rfl rfl dL_law_1862 ?_
  refine g_iload hK 5 rfl dL_law_1863 ?_
  refine g_iconst hK dL_law_1865 zki1 ?_
  refine g_iadd hK dL_law_1866 (fun v88 hv88 => ?_)
  refine g_sld hK hX dL_law_1867 (fun _ hl88 => ?_)
  refine g_if_eq hK hl88 (tgt := 1875) (by decide) dL_law_1868 (fun _ => ?_) (fun _ => ?_)
  · refine g_iconst hK dL_law_1875 zki0 ?_
    exact pL_law_1876 hcx k28 hk28 x5 0 μ hx5 zc0
  · refine g_iconst hK dL_law_1871 zki1 ?_
    refine g_goto hK (tgt := 1876) (by decide) dL_law_1872 ?_
    exact pL_law_1876 hcx k28 hk28 x5 1 μ hx5 zc1
set_option maxRecDepth 20000 in
set_option maxHeartbeats 2000000 in
theorem pL_law_1228 {K : zK} {Z : zZ} {F : Bool × zM → State → Prop} {bS : Nat} {cb sb : Nat} {L : Nat} {xs : Nat → Int32} (hcx : zOk K Z bL_law R_law 9 (some .boolean) 2048 84000 601024 7293034 ∧ zSX K Z bS L xs ∧ zNc K.2.2.2.2.1 ∧ (∀ {cb sb pc : Nat} {lv : List (Nat × Value)} {μ : zM}, decode bL_law pc = .ok (.ireturn, 1) → zG K Z (zΩ Z) F cb sb pc lv [.int (zi 1)] μ (some (true, μ))) ∧ ∀ {cb sb pc : Nat} {lv : List (Nat × Value)} {μ : zM}, decode bL_law pc = .ok (.ireturn, 1) → zG K Z (zΩ Z) F cb sb pc lv [.int (zi 0)] μ (some (false, μ))) (k28 : Int → zM → Option (Bool × zM)) (hk28 : ∀ (x5 : Int) (μ : zM) (hx5 : zr x5), zG K Z (zΩ Z) F cb sb 28 [(0, .ref bS), (1, .ref (Z.2.2.1 + 1)), (2, .ref (Z.2.2.1 + 292)), (3, .ref (Z.2.2.1 + 339)), (4, .ref (Z.2.2.1 + 340)), (5, .int (zi x5))] [] μ (k28 x5 μ)) (x5 : Int) (μ : zM) (hx5 : zr x5) : zG K Z (zΩ Z) F (cb + 1) (sb + 6) 1228 [(0, .ref bS), (1, .ref (Z.2.2.1 + 1)), (2, .ref (Z.2.2.1 + 292)), (3, .ref (Z.2.2.1 + 339)), (4, .ref (Z.2.2.1 + 340)), (5, .int (zi x5))] [] μ (fL_law_1228 L xs k28 x5 μ) := by
  obtain ⟨hK, hX, hNc, hR1, hR0⟩ := id hcx
  unfold fL_law_1228
  refine g_aload_n hK 1 rfl rfl dL_law_1228 ?_
  refine g_aload_n hK 3 rfl rfl dL_law_1229 ?_
  refine g_callSW hK hNc (rm := rmL_mirrored) (cb := cb + 0) (sb := sb + 0) (As := [.ref (Z.2.2.1 + 1), .ref (Z.2.2.1 + 339)]) (n := 2) (cL_mirrored K.2.1 hK.2.2.2.2.2.2.2.2.1 Z μ ) q_981 q_982 q_0 q_983 rfl (by decide +kernel) (by decide) (Nat.le_of_ble_eq_true rfl) (Nat.le_of_ble_eq_true rfl) (Nat.le_of_ble_eq_true rfl) rfl dL_law_1230 (fun r54 m37 hr54 hpr54 => ?_)
  refine g_istore hK (lv2 := [(0, .ref bS), (1, .ref (Z.2.2.1 + 1)), (2, .ref (Z.2.2.1 + 292)), (3, .ref (Z.2.2.1 + 339)), (4, .ref (Z.2.2.1 + 340)), (5, .int (zi x5)), (6, .int (zi r54))]) [1, 2, 3, 4, 5, 6, 0] rfl (by decide) dL_law_1233 ?_
  refine g_aload_n hK 2 rfl rfl dL_law_1235 ?_
  refine g_callVcl hK (mk := mkI) (rm := rm7_mirrored) (cb := cb + 0) (sb := sb + 0) (As := []) (b := 292) (n := 0) (c7_mirrored K.2.1 hK.2.2.2.2.2.2.2.2.1 Z  m37 ) rfl (ci := 7) rfl (by decide) kc_292 q_1610 q_1611 q_1612 q_7 q_1613 rfl (by decide +kernel) (by decide) (Nat.le_of_ble_eq_true rfl) (Nat.le_of_ble_eq_true rfl) (Nat.le_of_ble_eq_true rfl) rfl dL_law_1236 (fun r55 m38 hr55 hpr55 => ?_)
  refine g_istore hK (lv2 := [(0, .ref bS), (1, .ref (Z.2.2.1 + 1)), (2, .ref (Z.2.2.1 + 292)), (3, .ref (Z.2.2.1 + 339)), (4, .ref (Z.2.2.1 + 340)), (5, .int (zi x5)), (6, .int (zi r54)), (7, .int (zi r55))]) [1, 2, 3, 4, 5, 6, 7, 0] rfl (by decide) dL_law_1239 ?_
  refine g_aload_n hK 2 rfl rfl dL_law_1241 ?_
  refine g_callVco hK (mk := mkI) (rm := rm7_thrown) (cb := cb + 0) (sb := sb + 0) (As := []) (b := 292) (n := 0) (c7_thrown K.2.1 hK.2.2.2.2.2.2.2.2.1 Z  m38 ) rfl (ci := 7) rfl (by decide) kc_292 q_1306 q_1307 q_1308 q_7 q_1309 rfl (by decide +kernel) (by decide) (Nat.le_of_ble_eq_true rfl) (Nat.le_of_ble_eq_true rfl) (Nat.le_of_ble_eq_true rfl) rfl dL_law_1242 (fun r56 hr56 hpr56 => ?_)
  refine g_iload hK 6 rfl dL_law_1245 ?_
  refine g_icmp_eq hK hpr56 hpr54 (tgt := 1252) (by decide) dL_law_1247 (fun _ => ?_) (fun _ => ?_)
  · refine g_iload hK 6 rfl dL_law_1252 ?_
    refine g_if_ne hK hpr54 (tgt := 1269) (by decide) dL_law_1254 (fun _ => ?_) (fun _ => ?_)
    · refine g_goto hK (tgt := 2058) (by decide) dL_law_1269 ?_
      refine g_lv (lv2 := [(0, .ref bS), (1, .ref (Z.2.2.1 + 1)), (2, .ref (Z.2.2.1 + 292)), (3, .ref (Z.2.2.1 + 339)), (4, .ref (Z.2.2.1 + 340)), (5, .int (zi x5))]) [0, 1, 2, 3, 4, 5] rfl ?_
      exact pL_law_2058 hcx k28 hk28 x5 m38 hx5
    · refine g_aload_n hK 3 rfl rfl dL_law_1257 ?_
      refine g_iconst hK dL_law_1258 zki0 ?_
      refine g_lald hK kc_339 dL_law_1259 (fun _ hl68 => ?_)
      refine g_iload hK 7 rfl dL_law_1260 ?_
      refine g_i2l hK dL_law_1262 hpr55 ?_
      refine g_lcmp hK dL_law_1263 hl68 (zr_64 hpr55) (fun v68 hv68 => ?_)
      refine g_if_eq hK hv68 (tgt := 1269) (by decide) dL_law_1264 (fun _ => ?_) (fun _ => ?_)
      · refine g_goto hK (tgt := 2058) (by decide) dL_law_1269 ?_
        refine g_lv (lv2 := [(0, .ref bS), (1, .ref (Z.2.2.1 + 1)), (2, .ref (Z.2.2.1 + 292)), (3, .ref (Z.2.2.1 + 339)), (4, .ref (Z.2.2.1 + 340)), (5, .int (zi x5))]) [0, 1, 2, 3, 4, 5] rfl ?_
        exact pL_law_2058 hcx k28 hk28 x5 m38 hx5
      · refine g_iconst hK dL_law_1267 zki0 ?_
        exact hR0 dL_law_1268
  · refine g_iconst hK dL_law_1250 zki0 ?_
    exact hR0 dL_law_1251
set_option maxRecDepth 20000 in
set_option maxHeartbeats 2000000 in
theorem pL_law_333 {K : zK} {Z : zZ} {F : Bool × zM → State → Prop} {bS : Nat} {cb sb : Nat} {L : Nat} {xs : Nat → Int32} (hcx : zOk K Z bL_law R_law 9 (some .boolean) 2048 84000 601024 7293034 ∧ zSX K Z bS L xs ∧ zNc K.2.2.2.2.1 ∧ (∀ {cb sb pc : Nat} {lv : List (Nat × Value)} {μ : zM}, decode bL_law pc = .ok (.ireturn, 1) → zG K Z (zΩ Z) F cb sb pc lv [.int (zi 1)] μ (some (true, μ))) ∧ ∀ {cb sb pc : Nat} {lv : List (Nat × Value)} {μ : zM}, decode bL_law pc = .ok (.ireturn, 1) → zG K Z (zΩ Z) F cb sb pc lv [.int (zi 0)] μ (some (false, μ))) (k28 : Int → zM → Option (Bool × zM)) (hk28 : ∀ (x5 : Int) (μ : zM) (hx5 : zr x5), zG K Z (zΩ Z) F cb sb 28 [(0, .ref bS), (1, .ref (Z.2.2.1 + 1)), (2, .ref (Z.2.2.1 + 292)), (3, .ref (Z.2.2.1 + 339)), (4, .ref (Z.2.2.1 + 340)), (5, .int (zi x5))] [] μ (k28 x5 μ)) (x5 : Int) (μ : zM) (hx5 : zr x5) : zG K Z (zΩ Z) F (cb + 0) (sb + 0) 333 [(0, .ref bS), (1, .ref (Z.2.2.1 + 1)), (2, .ref (Z.2.2.1 + 292)), (3, .ref (Z.2.2.1 + 339)), (4, .ref (Z.2.2.1 + 340)), (5, .int (zi x5))] [] μ (fL_law_333 L xs k28 x5 μ) := by
  obtain ⟨hK, hX, hNc, hR1, hR0⟩ := id hcx
  unfold fL_law_333
  refine g_aload_n hK 1 rfl rfl dL_law_333 ?_
  refine g_callVco hK (mk := mkI) (rm := rm5_errorCode) (cb := cb + 0) (sb := sb + 0) (As := []) (b := 1) (n := 0) (c5_errorCode K.2.1 hK.2.2.2.2.2.2.2.2.1 Z  μ ) rfl (ci := 5) rfl (by decide) kc_1 q_492 q_493 q_494 q_1 q_495 rfl (by decide +kernel) (by decide) (Nat.le_of_ble_eq_true rfl) (Nat.le_of_ble_eq_true rfl) (Nat.le_of_ble_eq_true rfl) rfl dL_law_334 (fun r6 hr6 hpr6 => ?_)
  refine g_aload_n hK 2 rfl rfl dL_law_337 ?_
  refine g_callVcl hK (mk := mkI) (rm := rm7_errorCode) (cb := cb + 0) (sb := sb + 0) (As := []) (b := 292) (n := 0) (c7_errorCode K.2.1 hK.2.2.2.2.2.2.2.2.1 Z  μ ) rfl (ci := 7) rfl (by decide) kc_292 q_1411 q_1412 q_1413 q_7 q_1414 rfl (by decide +kernel) (by decide) (Nat.le_of_ble_eq_true rfl) (Nat.le_of_ble_eq_true rfl) (Nat.le_of_ble_eq_true rfl) rfl dL_law_338 (fun r7 m5 hr7 hpr7 => ?_)
  refine g_icmp_eq hK hpr6 hpr7 (tgt := 2058) (by decide) dL_law_341 (fun _ => ?_) (fun _ => ?_)
  · exact pL_law_2058 hcx k28 hk28 x5 m5 hx5
  · refine g_iconst hK dL_law_344 zki0 ?_
    exact hR0 dL_law_345
set_option maxRecDepth 20000 in
set_option maxHeartbeats 2000000 in
theorem pL_law_1740 {K : zK} {Z : zZ} {F : Bool × zM → State → Prop} {bS : Nat} {cb sb : Nat} {L : Nat} {xs : Nat → Int32} (hcx : zOk K Z bL_law R_law 9 (some .boolean) 2048 84000 601024 7293034 ∧ zSX K Z bS L xs ∧ zNc K.2.2.2.2.1 ∧ (∀ {cb sb pc : Nat} {lv : List (Nat × Value)} {μ : zM}, decode bL_law pc = .ok (.ireturn, 1) → zG K Z (zΩ Z) F cb sb pc lv [.int (zi 1)] μ (some (true, μ))) ∧ ∀ {cb sb pc : Nat} {lv : List (Nat × Value)} {μ : zM}, decode bL_law pc = .ok (.ireturn, 1) → zG K Z (zΩ Z) F cb sb pc lv [.int (zi 0)] μ (some (false, μ))) (k28 : Int → zM → Option (Bool × zM)) (hk28 : ∀ (x5 : Int) (μ : zM) (hx5 : zr x5), zG K Z (zΩ Z) F cb sb 28 [(0, .ref bS), (1, .ref (Z.2.2.1 + 1)), (2, .ref (Z.2.2.1 + 292)), (3, .ref (Z.2.2.1 + 339)), (4, .ref (Z.2.2.1 + 340)), (5, .int (zi x5))] [] μ (k28 x5 μ)) (x5 : Int) (μ : zM) (hx5 : zr x5) : zG K Z (zΩ Z) F (cb + 0) (sb + 0) 1740 [(0, .ref bS), (1, .ref (Z.2.2.1 + 1)), (2, .ref (Z.2.2.1 + 292)), (3, .ref (Z.2.2.1 + 339)), (4, .ref (Z.2.2.1 + 340)), (5, .int (zi x5))] [] μ (fL_law_1740 L xs k28 x5 μ) := by
  obtain ⟨hK, hX, hNc, hR1, hR0⟩ := id hcx
  unfold fL_law_1740
  refine g_aload_n hK 1 rfl rfl dL_law_1740 ?_
  refine g_callVcl hK (mk := mkI) (rm := rm5_reset) (cb := cb + 0) (sb := sb + 0) (As := []) (b := 1) (n := 0) (c5_reset K.2.1 hK.2.2.2.2.2.2.2.2.1 Z  μ ) rfl (ci := 5) rfl (by decide) kc_1 q_639 q_640 q_641 q_1 q_642 rfl (by decide +kernel) (by decide) (Nat.le_of_ble_eq_true rfl) (Nat.le_of_ble_eq_true rfl) (Nat.le_of_ble_eq_true rfl) rfl dL_law_1741 (fun r83 m57 hr83 hpr83 => ?_)
  refine g_aload_n hK 2 rfl rfl dL_law_1744 ?_
  refine g_callVcl hK (mk := mkI) (rm := rm7_reset) (cb := cb + 0) (sb := sb + 0) (As := []) (b := 292) (n := 0) (c7_reset K.2.1 hK.2.2.2.2.2.2.2.2.1 Z  m57 ) rfl (ci := 7) rfl (by decide) kc_292 q_1692 q_1693 q_1694 q_7 q_1695 rfl (by decide +kernel) (by decide) (Nat.le_of_ble_eq_true rfl) (Nat.le_of_ble_eq_true rfl) (Nat.le_of_ble_eq_true rfl) rfl dL_law_1745 (fun r84 m58 hr84 hpr84 => ?_)
  refine g_icmp_eq hK hpr83 hpr84 (tgt := 2058) (by decide) dL_law_1748 (fun _ => ?_) (fun _ => ?_)
  · exact pL_law_2058 hcx k28 hk28 x5 m58 hx5
  · refine g_iconst hK dL_law_1751 zki0 ?_
    exact hR0 dL_law_1752
set_option maxRecDepth 20000 in
set_option maxHeartbeats 2000000 in
theorem pL_law_1615 {K : zK} {Z : zZ} {F : Bool × zM → State → Prop} {bS : Nat} {cb sb : Nat} {L : Nat} {xs : Nat → Int32} (hcx : zOk K Z bL_law R_law 9 (some .boolean) 2048 84000 601024 7293034 ∧ zSX K Z bS L xs ∧ zNc K.2.2.2.2.1 ∧ (∀ {cb sb pc : Nat} {lv : List (Nat × Value)} {μ : zM}, decode bL_law pc = .ok (.ireturn, 1) → zG K Z (zΩ Z) F cb sb pc lv [.int (zi 1)] μ (some (true, μ))) ∧ ∀ {cb sb pc : Nat} {lv : List (Nat × Value)} {μ : zM}, decode bL_law pc = .ok (.ireturn, 1) → zG K Z (zΩ Z) F cb sb pc lv [.int (zi 0)] μ (some (false, μ))) (k28 : Int → zM → Option (Bool × zM)) (hk28 : ∀ (x5 : Int) (μ : zM) (hx5 : zr x5), zG K Z (zΩ Z) F cb sb 28 [(0, .ref bS), (1, .ref (Z.2.2.1 + 1)), (2, .ref (Z.2.2.1 + 292)), (3, .ref (Z.2.2.1 + 339)), (4, .ref (Z.2.2.1 + 340)), (5, .int (zi x5))] [] μ (k28 x5 μ)) (x5 : Int) (μ : zM) (hx5 : zr x5) : zG K Z (zΩ Z) F (cb + 1) (sb + 6) 1615 [(0, .ref bS), (1, .ref (Z.2.2.1 + 1)), (2, .ref (Z.2.2.1 + 292)), (3, .ref (Z.2.2.1 + 339)), (4, .ref (Z.2.2.1 + 340)), (5, .int (zi x5))] [] μ (fL_law_1615 L xs k28 x5 μ) := by
  obtain ⟨hK, hX, hNc, hR1, hR0⟩ := id hcx
  unfold fL_law_1615
  refine g_aload_n hK 1 rfl rfl dL_law_1615 ?_
  refine g_aload_n hK 0 rfl rfl dL_law_1616 ?_
  refine g_iload hK 5 rfl dL_law_1617 ?_
  refine g_iconst hK dL_law_1619 zki1 ?_
  refine g_iadd hK dL_law_1620 (fun v79 hv79 => ?_)
  refine g_sld hK hX dL_law_1621 (fun _ hl79 => ?_)
  refine g_aload_n hK 3 rfl rfl dL_law_1622 ?_
  refine g_callSW hK hNc (rm := rmL_expand) (cb := cb + 0) (sb := sb + 0) (As := [.ref (Z.2.2.1 + 1), .int (zi ((xs (zx v79)).toInt)), .ref (Z.2.2.1 + 339)]) (n := 3) (cL_expand K.2.1 hK.2.2.2.2.2.2.2.2.1 Z ((xs (zx v79)).toInt) μ hl79) q_1053 q_1054 q_0 q_1055 rfl (by decide +kernel) (by decide) (Nat.le_of_ble_eq_true rfl) (Nat.le_of_ble_eq_true rfl) (Nat.le_of_ble_eq_true rfl) rfl dL_law_1623 (fun r75 m51 hr75 hpr75 => ?_)
  refine g_istore hK (lv2 := [(0, .ref bS), (1, .ref (Z.2.2.1 + 1)), (2, .ref (Z.2.2.1 + 292)), (3, .ref (Z.2.2.1 + 339)), (4, .ref (Z.2.2.1 + 340)), (5, .int (zi x5)), (6, .int (zi r75))]) [1, 2, 3, 4, 5, 6, 0] rfl (by decide) dL_law_1626 ?_
  refine g_aload_n hK 2 rfl rfl dL_law_1628 ?_
  refine g_aload_n hK 0 rfl rfl dL_law_1629 ?_
  refine g_iload hK 5 rfl dL_law_1630 ?_
  refine g_iconst hK dL_law_1632 zki1 ?_
  refine g_iadd hK dL_law_1633 (fun v80 hv80 => ?_)
  refine g_sld hK hX dL_law_1634 (fun _ hl80 => ?_)
  refine g_callVcl hK (mk := mkI) (rm := rm7_expand) (cb := cb + 0) (sb := sb + 0) (As := [.int (zi ((xs (zx v80)).toInt))]) (b := 292) (n := 1) (c7_expand K.2.1 hK.2.2.2.2.2.2.2.2.1 Z ((xs (zx v80)).toInt) m51 hl80) rfl (ci := 7) rfl (by decide) kc_292 q_1652 q_1653 q_1654 q_7 q_1655 rfl (by decide +kernel) (by decide) (Nat.le_of_ble_eq_true rfl) (Nat.le_of_ble_eq_true rfl) (Nat.le_of_ble_eq_true rfl) rfl dL_law_1635 (fun r76 m52 hr76 hpr76 => ?_)
  refine g_istore hK (lv2 := [(0, .ref bS), (1, .ref (Z.2.2.1 + 1)), (2, .ref (Z.2.2.1 + 292)), (3, .ref (Z.2.2.1 + 339)), (4, .ref (Z.2.2.1 + 340)), (5, .int (zi x5)), (6, .int (zi r75)), (7, .int (zi r76))]) [1, 2, 3, 4, 5, 6, 7, 0] rfl (by decide) dL_law_1638 ?_
  refine g_aload_n hK 2 rfl rfl dL_law_1640 ?_
  refine g_callVco hK (mk := mkI) (rm := rm7_thrown) (cb := cb + 0) (sb := sb + 0) (As := []) (b := 292) (n := 0) (c7_thrown K.2.1 hK.2.2.2.2.2.2.2.2.1 Z  m52 ) rfl (ci := 7) rfl (by decide) kc_292 q_1306 q_1307 q_1308 q_7 q_1309 rfl (by decide +kernel) (by decide) (Nat.le_of_ble_eq_true rfl) (Nat.le_of_ble_eq_true rfl) (Nat.le_of_ble_eq_true rfl) rfl dL_law_1641 (fun r77 hr77 hpr77 => ?_)
  refine g_iload hK 6 rfl dL_law_1644 ?_
  refine g_icmp_eq hK hpr77 hpr75 (tgt := 1651) (by decide) dL_law_1646 (fun _ => ?_) (fun _ => ?_)
  · refine g_iload hK 6 rfl dL_law_1651 ?_
    refine g_if_ne hK hpr75 (tgt := 1668) (by decide) dL_law_1653 (fun _ => ?_) (fun _ => ?_)
    · refine g_goto hK (tgt := 2058) (by decide) dL_law_1668 ?_
      refine g_lv (lv2 := [(0, .ref bS), (1, .ref (Z.2.2.1 + 1)), (2, .ref (Z.2.2.1 + 292)), (3, .ref (Z.2.2.1 + 339)), (4, .ref (Z.2.2.1 + 340)), (5, .int (zi x5))]) [0, 1, 2, 3, 4, 5] rfl ?_
      exact pL_law_2058 hcx k28 hk28 x5 m52 hx5
    · refine g_aload_n hK 3 rfl rfl dL_law_1656 ?_
      refine g_iconst hK dL_law_1657 zki0 ?_
      refine g_lald hK kc_339 dL_law_1658 (fun _ hl81 => ?_)
      refine g_iload hK 7 rfl dL_law_1659 ?_
      refine g_i2l hK dL_law_1661 hpr76 ?_
      refine g_lcmp hK dL_law_1662 hl81 (zr_64 hpr76) (fun v81 hv81 => ?_)
      refine g_if_eq hK hv81 (tgt := 1668) (by decide) dL_law_1663 (fun _ => ?_) (fun _ => ?_)
      · refine g_goto hK (tgt := 2058) (by decide) dL_law_1668 ?_
        refine g_lv (lv2 := [(0, .ref bS), (1, .ref (Z.2.2.1 + 1)), (2, .ref (Z.2.2.1 + 292)), (3, .ref (Z.2.2.1 + 339)), (4, .ref (Z.2.2.1 + 340)), (5, .int (zi x5))]) [0, 1, 2, 3, 4, 5] rfl ?_
        exact pL_law_2058 hcx k28 hk28 x5 m52 hx5
      · refine g_iconst hK dL_law_1666 zki0 ?_
        exact hR0 dL_law_1667
  · refine g_iconst hK dL_law_1649 zki0 ?_
    exact hR0 dL_law_1650
set_option maxRecDepth 20000 in
set_option maxHeartbeats 2000000 in
theorem pL_law_2002 {K : zK} {Z : zZ} {F : Bool × zM → State → Prop} {bS : Nat} {cb sb : Nat} {L : Nat} {xs : Nat → Int32} (hcx : zOk K Z bL_law R_law 9 (some .boolean) 2048 84000 601024 7293034 ∧ zSX K Z bS L xs ∧ zNc K.2.2.2.2.1 ∧ (∀ {cb sb pc : Nat} {lv : List (Nat × Value)} {μ : zM}, decode bL_law pc = .ok (.ireturn, 1) → zG K Z (zΩ Z) F cb sb pc lv [.int (zi 1)] μ (some (true, μ))) ∧ ∀ {cb sb pc : Nat} {lv : List (Nat × Value)} {μ : zM}, decode bL_law pc = .ok (.ireturn, 1) → zG K Z (zΩ Z) F cb sb pc lv [.int (zi 0)] μ (some (false, μ))) (k28 : Int → zM → Option (Bool × zM)) (hk28 : ∀ (x5 : Int) (μ : zM) (hx5 : zr x5), zG K Z (zΩ Z) F cb sb 28 [(0, .ref bS), (1, .ref (Z.2.2.1 + 1)), (2, .ref (Z.2.2.1 + 292)), (3, .ref (Z.2.2.1 + 339)), (4, .ref (Z.2.2.1 + 340)), (5, .int (zi x5))] [] μ (k28 x5 μ)) (x5 : Int) (μ : zM) (hx5 : zr x5) : zG K Z (zΩ Z) F (cb + 2) (sb + 12) 2002 [(0, .ref bS), (1, .ref (Z.2.2.1 + 1)), (2, .ref (Z.2.2.1 + 292)), (3, .ref (Z.2.2.1 + 339)), (4, .ref (Z.2.2.1 + 340)), (5, .int (zi x5))] [] μ (fL_law_2002 L xs k28 x5 μ) := by
  obtain ⟨hK, hX, hNc, hR1, hR0⟩ := id hcx
  unfold fL_law_2002
  refine g_aload_n hK 1 rfl rfl dL_law_2002 ?_
  refine g_aload_n hK 0 rfl rfl dL_law_2003 ?_
  refine g_iload hK 5 rfl dL_law_2004 ?_
  refine g_iconst hK dL_law_2006 zki1 ?_
  refine g_iadd hK dL_law_2007 (fun v93 hv93 => ?_)
  refine g_sld hK hX dL_law_2008 (fun _ hl93 => ?_)
  refine g_aload_n hK 3 rfl rfl dL_law_2009 ?_
  refine g_callSW hK hNc (rm := rmL_restore) (cb := cb + 0) (sb := sb + 0) (As := [.ref (Z.2.2.1 + 1), .int (zi ((xs (zx v93)).toInt)), .ref (Z.2.2.1 + 339)]) (n := 3) (cL_restore K.2.1 hK.2.2.2.2.2.2.2.2.1 Z ((xs (zx v93)).toInt) μ hl93) q_1118 q_1119 q_0 q_1120 rfl (by decide +kernel) (by decide) (Nat.le_of_ble_eq_true rfl) (Nat.le_of_ble_eq_true rfl) (Nat.le_of_ble_eq_true rfl) rfl dL_law_2010 (fun r102 m73 hr102 hpr102 => ?_)
  refine g_istore hK (lv2 := [(0, .ref bS), (1, .ref (Z.2.2.1 + 1)), (2, .ref (Z.2.2.1 + 292)), (3, .ref (Z.2.2.1 + 339)), (4, .ref (Z.2.2.1 + 340)), (5, .int (zi x5)), (6, .int (zi r102))]) [1, 2, 3, 4, 5, 6, 0] rfl (by decide) dL_law_2013 ?_
  refine g_aload_n hK 2 rfl rfl dL_law_2015 ?_
  refine g_aload_n hK 0 rfl rfl dL_law_2016 ?_
  refine g_iload hK 5 rfl dL_law_2017 ?_
  refine g_iconst hK dL_law_2019 zki1 ?_
  refine g_iadd hK dL_law_2020 (fun v94 hv94 => ?_)
  refine g_sld hK hX dL_law_2021 (fun _ hl94 => ?_)
  refine g_callVcl hK (mk := mkI) (rm := rm7_restore) (cb := cb + 0) (sb := sb + 0) (As := [.int (zi ((xs (zx v94)).toInt))]) (b := 292) (n := 1) (c7_restore K.2.1 hK.2.2.2.2.2.2.2.2.1 Z ((xs (zx v94)).toInt) m73 hl94) rfl (ci := 7) rfl (by decide) kc_292 q_1736 q_1737 q_1738 q_7 q_1739 rfl (by decide +kernel) (by decide) (Nat.le_of_ble_eq_true rfl) (Nat.le_of_ble_eq_true rfl) (Nat.le_of_ble_eq_true rfl) rfl dL_law_2022 (fun r103 m74 hr103 hpr103 => ?_)
  refine g_istore hK (lv2 := [(0, .ref bS), (1, .ref (Z.2.2.1 + 1)), (2, .ref (Z.2.2.1 + 292)), (3, .ref (Z.2.2.1 + 339)), (4, .ref (Z.2.2.1 + 340)), (5, .int (zi x5)), (6, .int (zi r102)), (7, .int (zi r103))]) [1, 2, 3, 4, 5, 6, 7, 0] rfl (by decide) dL_law_2025 ?_
  refine g_aload_n hK 2 rfl rfl dL_law_2027 ?_
  refine g_callVco hK (mk := mkI) (rm := rm7_thrown) (cb := cb + 0) (sb := sb + 0) (As := []) (b := 292) (n := 0) (c7_thrown K.2.1 hK.2.2.2.2.2.2.2.2.1 Z  m74 ) rfl (ci := 7) rfl (by decide) kc_292 q_1306 q_1307 q_1308 q_7 q_1309 rfl (by decide +kernel) (by decide) (Nat.le_of_ble_eq_true rfl) (Nat.le_of_ble_eq_true rfl) (Nat.le_of_ble_eq_true rfl) rfl dL_law_2028 (fun r104 hr104 hpr104 => ?_)
  refine g_iload hK 6 rfl dL_law_2031 ?_
  refine g_icmp_eq hK hpr104 hpr102 (tgt := 2038) (by decide) dL_law_2033 (fun _ => ?_) (fun _ => ?_)
  · refine g_iload hK 6 rfl dL_law_2038 ?_
    refine g_if_ne hK hpr102 (tgt := 2055) (by decide) dL_law_2040 (fun _ => ?_) (fun _ => ?_)
    · refine g_goto hK (tgt := 2058) (by decide) dL_law_2055 ?_
      refine g_lv (lv2 := [(0, .ref bS), (1, .ref (Z.2.2.1 + 1)), (2, .ref (Z.2.2.1 + 292)), (3, .ref (Z.2.2.1 + 339)), (4, .ref (Z.2.2.1 + 340)), (5, .int (zi x5))]) [0, 1, 2, 3, 4, 5] rfl ?_
      exact pL_law_2058 hcx k28 hk28 x5 m74 hx5
    · refine g_aload_n hK 3 rfl rfl dL_law_2043 ?_
      refine g_iconst hK dL_law_2044 zki0 ?_
      refine g_lald hK kc_339 dL_law_2045 (fun _ hl95 => ?_)
      refine g_iload hK 7 rfl dL_law_2046 ?_
      refine g_i2l hK dL_law_2048 hpr103 ?_
      refine g_lcmp hK dL_law_2049 hl95 (zr_64 hpr103) (fun v95 hv95 => ?_)
      refine g_if_eq hK hv95 (tgt := 2055) (by decide) dL_law_2050 (fun _ => ?_) (fun _ => ?_)
      · refine g_goto hK (tgt := 2058) (by decide) dL_law_2055 ?_
        refine g_lv (lv2 := [(0, .ref bS), (1, .ref (Z.2.2.1 + 1)), (2, .ref (Z.2.2.1 + 292)), (3, .ref (Z.2.2.1 + 339)), (4, .ref (Z.2.2.1 + 340)), (5, .int (zi x5))]) [0, 1, 2, 3, 4, 5] rfl ?_
        exact pL_law_2058 hcx k28 hk28 x5 m74 hx5
      · refine g_iconst hK dL_law_2053 zki0 ?_
        exact hR0 dL_law_2054
  · refine g_iconst hK dL_law_2036 zki0 ?_
    exact hR0 dL_law_2037
set_option maxRecDepth 20000 in
set_option maxHeartbeats 2000000 in
theorem pL_law_216 {K : zK} {Z : zZ} {F : Bool × zM → State → Prop} {bS : Nat} {cb sb : Nat} {L : Nat} {xs : Nat → Int32} (hcx : zOk K Z bL_law R_law 9 (some .boolean) 2048 84000 601024 7293034 ∧ zSX K Z bS L xs ∧ zNc K.2.2.2.2.1 ∧ (∀ {cb sb pc : Nat} {lv : List (Nat × Value)} {μ : zM}, decode bL_law pc = .ok (.ireturn, 1) → zG K Z (zΩ Z) F cb sb pc lv [.int (zi 1)] μ (some (true, μ))) ∧ ∀ {cb sb pc : Nat} {lv : List (Nat × Value)} {μ : zM}, decode bL_law pc = .ok (.ireturn, 1) → zG K Z (zΩ Z) F cb sb pc lv [.int (zi 0)] μ (some (false, μ))) (k28 : Int → zM → Option (Bool × zM)) (hk28 : ∀ (x5 : Int) (μ : zM) (hx5 : zr x5), zG K Z (zΩ Z) F cb sb 28 [(0, .ref bS), (1, .ref (Z.2.2.1 + 1)), (2, .ref (Z.2.2.1 + 292)), (3, .ref (Z.2.2.1 + 339)), (4, .ref (Z.2.2.1 + 340)), (5, .int (zi x5))] [] μ (k28 x5 μ)) (x5 : Int) (μ : zM) (hx5 : zr x5) : zG K Z (zΩ Z) F (cb + 1) (sb + 6) 216 [(0, .ref bS), (1, .ref (Z.2.2.1 + 1)), (2, .ref (Z.2.2.1 + 292)), (3, .ref (Z.2.2.1 + 339)), (4, .ref (Z.2.2.1 + 340)), (5, .int (zi x5))] [] μ (fL_law_216 L xs k28 x5 μ) := by
  obtain ⟨hK, hX, hNc, hR1, hR0⟩ := id hcx
  unfold fL_law_216
  refine g_aload_n hK 1 rfl rfl dL_law_216 ?_
  refine g_aload_n hK 0 rfl rfl dL_law_217 ?_
  refine g_iload hK 5 rfl dL_law_218 ?_
  refine g_iconst hK dL_law_220 zki1 ?_
  refine g_iadd hK dL_law_221 (fun v3 hv3 => ?_)
  refine g_sld hK hX dL_law_222 (fun _ hl3 => ?_)
  refine g_aload_n hK 0 rfl rfl dL_law_223 ?_
  refine g_iload hK 5 rfl dL_law_224 ?_
  refine g_iconst hK dL_law_226 zki2 ?_
  refine g_iadd hK dL_law_227 (fun v4 hv4 => ?_)
  refine g_sld hK hX dL_law_228 (fun _ hl4 => ?_)
  refine g_aload_n hK 0 rfl rfl dL_law_229 ?_
  refine g_iload hK 5 rfl dL_law_230 ?_
  refine g_iconst hK dL_law_232 zki3 ?_
  refine g_iadd hK dL_law_233 (fun v5 hv5 => ?_)
  refine g_sld hK hX dL_law_234 (fun _ hl5 => ?_)
  refine g_aload_n hK 0 rfl rfl dL_law_235 ?_
  refine g_iload hK 5 rfl dL_law_236 ?_
  refine g_iconst hK dL_law_238 zki4 ?_
  refine g_iadd hK dL_law_239 (fun v6 hv6 => ?_)
  refine g_sld hK hX dL_law_240 (fun _ hl6 => ?_)
  refine g_aload_n hK 0 rfl rfl dL_law_241 ?_
  refine g_iload hK 5 rfl dL_law_242 ?_
  refine g_iconst hK dL_law_244 zki5 ?_
  refine g_iadd hK dL_law_245 (fun v7 hv7 => ?_)
  refine g_sld hK hX dL_law_246 (fun _ hl7 => ?_)
  refine g_aload_n hK 3 rfl rfl dL_law_247 ?_
  refine g_callSW hK hNc (rm := rmL_append) (cb := cb + 0) (sb := sb + 0) (As := [.ref (Z.2.2.1 + 1), .int (zi ((xs (zx v3)).toInt)), .int (zi ((xs (zx v4)).toInt)), .int (zi ((xs (zx v5)).toInt)), .int (zi ((xs (zx v6)).toInt)), .int (zi ((xs (zx v7)).toInt)), .ref (Z.2.2.1 + 339)]) (n := 7) (cL_append K.2.1 hK.2.2.2.2.2.2.2.2.1 Z ((xs (zx v3)).toInt) ((xs (zx v4)).toInt) ((xs (zx v5)).toInt) ((xs (zx v6)).toInt) ((xs (zx v7)).toInt) μ hl3 hl4 hl5 hl6 hl7) q_699 q_700 q_0 q_701 rfl (by decide +kernel) (by decide) (Nat.le_of_ble_eq_true rfl) (Nat.le_of_ble_eq_true rfl) (Nat.le_of_ble_eq_true rfl) rfl dL_law_248 (fun r1 m1 hr1 hpr1 => ?_)
  refine g_istore hK (lv2 := [(0, .ref bS), (1, .ref (Z.2.2.1 + 1)), (2, .ref (Z.2.2.1 + 292)), (3, .ref (Z.2.2.1 + 339)), (4, .ref (Z.2.2.1 + 340)), (5, .int (zi x5)), (6, .int (zi r1))]) [1, 2, 3, 4, 5, 6, 0] rfl (by decide) dL_law_251 ?_
  refine g_aload_n hK 2 rfl rfl dL_law_253 ?_
  refine g_aload_n hK 0 rfl rfl dL_law_254 ?_
  refine g_iload hK 5 rfl dL_law_255 ?_
  refine g_iconst hK dL_law_257 zki1 ?_
  refine g_iadd hK dL_law_258 (fun v8 hv8 => ?_)
  refine g_sld hK hX dL_law_259 (fun _ hl8 => ?_)
  refine g_aload_n hK 0 rfl rfl dL_law_260 ?_
  refine g_iload hK 5 rfl dL_law_261 ?_
  refine g_iconst hK dL_law_263 zki2 ?_
  refine g_iadd hK dL_law_264 (fun v9 hv9 => ?_)
  refine g_sld hK hX dL_law_265 (fun _ hl9 => ?_)
  refine g_aload_n hK 0 rfl rfl dL_law_266 ?_
  refine g_iload hK 5 rfl dL_law_267 ?_
  refine g_iconst hK dL_law_269 zki3 ?_
  refine g_iadd hK dL_law_270 (fun v10 hv10 => ?_)
  refine g_sld hK hX dL_law_271 (fun _ hl10 => ?_)
  refine g_aload_n hK 0 rfl rfl dL_law_272 ?_
  refine g_iload hK 5 rfl dL_law_273 ?_
  refine g_iconst hK dL_law_275 zki4 ?_
  refine g_iadd hK dL_law_276 (fun v11 hv11 => ?_)
  refine g_sld hK hX dL_law_277 (fun _ hl11 => ?_)
  refine g_aload_n hK 0 rfl rfl dL_law_278 ?_
  refine g_iload hK 5 rfl dL_law_279 ?_
  refine g_iconst hK dL_law_281 zki5 ?_
  refine g_iadd hK dL_law_282 (fun v12 hv12 => ?_)
  refine g_sld hK hX dL_law_283 (fun _ hl12 => ?_)
  refine g_callVcl hK (mk := mkI) (rm := rm7_append) (cb := cb + 0) (sb := sb + 0) (As := [.int (zi ((xs (zx v8)).toInt)), .int (zi ((xs (zx v9)).toInt)), .int (zi ((xs (zx v10)).toInt)), .int (zi ((xs (zx v11)).toInt)), .int (zi ((xs (zx v12)).toInt))]) (b := 292) (n := 5) (c7_append K.2.1 hK.2.2.2.2.2.2.2.2.1 Z ((xs (zx v8)).toInt) ((xs (zx v9)).toInt) ((xs (zx v10)).toInt) ((xs (zx v11)).toInt) ((xs (zx v12)).toInt) m1 hl8 hl9 hl10 hl11 hl12) rfl (ci := 7) rfl (by decide) kc_292 q_1310 q_1311 q_1312 q_7 q_1313 rfl (by decide +kernel) (by decide) (Nat.le_of_ble_eq_true rfl) (Nat.le_of_ble_eq_true rfl) (Nat.le_of_ble_eq_true rfl) rfl dL_law_284 (fun r2 m2 hr2 hpr2 => ?_)
  refine g_istore hK (lv2 := [(0, .ref bS), (1, .ref (Z.2.2.1 + 1)), (2, .ref (Z.2.2.1 + 292)), (3, .ref (Z.2.2.1 + 339)), (4, .ref (Z.2.2.1 + 340)), (5, .int (zi x5)), (6, .int (zi r1)), (7, .int (zi r2))]) [1, 2, 3, 4, 5, 6, 7, 0] rfl (by decide) dL_law_287 ?_
  refine g_aload_n hK 2 rfl rfl dL_law_289 ?_
  refine g_callVco hK (mk := mkI) (rm := rm7_thrown) (cb := cb + 0) (sb := sb + 0) (As := []) (b := 292) (n := 0) (c7_thrown K.2.1 hK.2.2.2.2.2.2.2.2.1 Z  m2 ) rfl (ci := 7) rfl (by decide) kc_292 q_1306 q_1307 q_1308 q_7 q_1309 rfl (by decide +kernel) (by decide) (Nat.le_of_ble_eq_true rfl) (Nat.le_of_ble_eq_true rfl) (Nat.le_of_ble_eq_true rfl) rfl dL_law_290 (fun r3 hr3 hpr3 => ?_)
  refine g_iload hK 6 rfl dL_law_293 ?_
  refine g_icmp_eq hK hpr3 hpr1 (tgt := 300) (by decide) dL_law_295 (fun _ => ?_) (fun _ => ?_)
  · refine g_iload hK 6 rfl dL_law_300 ?_
    refine g_if_ne hK hpr1 (tgt := 317) (by decide) dL_law_302 (fun _ => ?_) (fun _ => ?_)
    · refine g_goto hK (tgt := 2058) (by decide) dL_law_317 ?_
      refine g_lv (lv2 := [(0, .ref bS), (1, .ref (Z.2.2.1 + 1)), (2, .ref (Z.2.2.1 + 292)), (3, .ref (Z.2.2.1 + 339)), (4, .ref (Z.2.2.1 + 340)), (5, .int (zi x5))]) [0, 1, 2, 3, 4, 5] rfl ?_
      exact pL_law_2058 hcx k28 hk28 x5 m2 hx5
    · refine g_aload_n hK 3 rfl rfl dL_law_305 ?_
      refine g_iconst hK dL_law_306 zki0 ?_
      refine g_lald hK kc_339 dL_law_307 (fun _ hl13 => ?_)
      refine g_iload hK 7 rfl dL_law_308 ?_
      refine g_i2l hK dL_law_310 hpr2 ?_
      refine g_lcmp hK dL_law_311 hl13 (zr_64 hpr2) (fun v13 hv13 => ?_)
      refine g_if_eq hK hv13 (tgt := 317) (by decide) dL_law_312 (fun _ => ?_) (fun _ => ?_)
      · refine g_goto hK (tgt := 2058) (by decide) dL_law_317 ?_
        refine g_lv (lv2 := [(0, .ref bS), (1, .ref (Z.2.2.1 + 1)), (2, .ref (Z.2.2.1 + 292)), (3, .ref (Z.2.2.1 + 339)), (4, .ref (Z.2.2.1 + 340)), (5, .int (zi x5))]) [0, 1, 2, 3, 4, 5] rfl ?_
        exact pL_law_2058 hcx k28 hk28 x5 m2 hx5
      · refine g_iconst hK dL_law_315 zki0 ?_
        exact hR0 dL_law_316
  · refine g_iconst hK dL_law_298 zki0 ?_
    exact hR0 dL_law_299
set_option maxRecDepth 20000 in
set_option maxHeartbeats 2000000 in
theorem pL_law_1016 {K : zK} {Z : zZ} {F : Bool × zM → State → Prop} {bS : Nat} {cb sb : Nat} {L : Nat} {xs : Nat → Int32} (hcx : zOk K Z bL_law R_law 9 (some .boolean) 2048 84000 601024 7293034 ∧ zSX K Z bS L xs ∧ zNc K.2.2.2.2.1 ∧ (∀ {cb sb pc : Nat} {lv : List (Nat × Value)} {μ : zM}, decode bL_law pc = .ok (.ireturn, 1) → zG K Z (zΩ Z) F cb sb pc lv [.int (zi 1)] μ (some (true, μ))) ∧ ∀ {cb sb pc : Nat} {lv : List (Nat × Value)} {μ : zM}, decode bL_law pc = .ok (.ireturn, 1) → zG K Z (zΩ Z) F cb sb pc lv [.int (zi 0)] μ (some (false, μ))) (k28 : Int → zM → Option (Bool × zM)) (hk28 : ∀ (x5 : Int) (μ : zM) (hx5 : zr x5), zG K Z (zΩ Z) F cb sb 28 [(0, .ref bS), (1, .ref (Z.2.2.1 + 1)), (2, .ref (Z.2.2.1 + 292)), (3, .ref (Z.2.2.1 + 339)), (4, .ref (Z.2.2.1 + 340)), (5, .int (zi x5))] [] μ (k28 x5 μ)) (x5 : Int) (μ : zM) (hx5 : zr x5) : zG K Z (zΩ Z) F (cb + 1) (sb + 6) 1016 [(0, .ref bS), (1, .ref (Z.2.2.1 + 1)), (2, .ref (Z.2.2.1 + 292)), (3, .ref (Z.2.2.1 + 339)), (4, .ref (Z.2.2.1 + 340)), (5, .int (zi x5))] [] μ (fL_law_1016 L xs k28 x5 μ) := by
  obtain ⟨hK, hX, hNc, hR1, hR0⟩ := id hcx
  unfold fL_law_1016
  refine g_aload_n hK 1 rfl rfl dL_law_1016 ?_
  refine g_aload_n hK 0 rfl rfl dL_law_1017 ?_
  refine g_iload hK 5 rfl dL_law_1018 ?_
  refine g_iconst hK dL_law_1020 zki1 ?_
  refine g_iadd hK dL_law_1021 (fun v58 hv58 => ?_)
  refine g_sld hK hX dL_law_1022 (fun _ hl58 => ?_)
  refine g_aload_n hK 3 rfl rfl dL_law_1023 ?_
  refine g_callSW hK hNc (rm := rmL_text) (cb := cb + 0) (sb := sb + 0) (As := [.ref (Z.2.2.1 + 1), .int (zi ((xs (zx v58)).toInt)), .ref (Z.2.2.1 + 339)]) (n := 3) (cL_text K.2.1 hK.2.2.2.2.2.2.2.2.1 Z ((xs (zx v58)).toInt) μ hl58) q_945 q_946 q_0 q_947 rfl (by decide +kernel) (by decide) (Nat.le_of_ble_eq_true rfl) (Nat.le_of_ble_eq_true rfl) (Nat.le_of_ble_eq_true rfl) rfl dL_law_1024 (fun r42 m29 hr42 hpr42 => ?_)
  refine g_istore hK (lv2 := [(0, .ref bS), (1, .ref (Z.2.2.1 + 1)), (2, .ref (Z.2.2.1 + 292)), (3, .ref (Z.2.2.1 + 339)), (4, .ref (Z.2.2.1 + 340)), (5, .int (zi x5)), (6, .int (zi r42))]) [1, 2, 3, 4, 5, 6, 0] rfl (by decide) dL_law_1027 ?_
  refine g_aload_n hK 2 rfl rfl dL_law_1029 ?_
  refine g_aload_n hK 0 rfl rfl dL_law_1030 ?_
  refine g_iload hK 5 rfl dL_law_1031 ?_
  refine g_iconst hK dL_law_1033 zki1 ?_
  refine g_iadd hK dL_law_1034 (fun v59 hv59 => ?_)
  refine g_sld hK hX dL_law_1035 (fun _ hl59 => ?_)
  refine g_callVcl hK (mk := mkI) (rm := rm7_text) (cb := cb + 0) (sb := sb + 0) (As := [.int (zi ((xs (zx v59)).toInt))]) (b := 292) (n := 1) (c7_text K.2.1 hK.2.2.2.2.2.2.2.2.1 Z ((xs (zx v59)).toInt) m29 hl59) rfl (ci := 7) rfl (by decide) kc_292 q_1585 q_1586 q_1587 q_7 q_1588 rfl (by decide +kernel) (by decide) (Nat.le_of_ble_eq_true rfl) (Nat.le_of_ble_eq_true rfl) (Nat.le_of_ble_eq_true rfl) rfl dL_law_1036 (fun r43 m30 hr43 hpr43 => ?_)
  refine g_istore hK (lv2 := [(0, .ref bS), (1, .ref (Z.2.2.1 + 1)), (2, .ref (Z.2.2.1 + 292)), (3, .ref (Z.2.2.1 + 339)), (4, .ref (Z.2.2.1 + 340)), (5, .int (zi x5)), (6, .int (zi r42)), (7, .int (zi r43))]) [1, 2, 3, 4, 5, 6, 7, 0] rfl (by decide) dL_law_1039 ?_
  refine g_aload_n hK 2 rfl rfl dL_law_1041 ?_
  refine g_callVco hK (mk := mkI) (rm := rm7_thrown) (cb := cb + 0) (sb := sb + 0) (As := []) (b := 292) (n := 0) (c7_thrown K.2.1 hK.2.2.2.2.2.2.2.2.1 Z  m30 ) rfl (ci := 7) rfl (by decide) kc_292 q_1306 q_1307 q_1308 q_7 q_1309 rfl (by decide +kernel) (by decide) (Nat.le_of_ble_eq_true rfl) (Nat.le_of_ble_eq_true rfl) (Nat.le_of_ble_eq_true rfl) rfl dL_law_1042 (fun r44 hr44 hpr44 => ?_)
  refine g_iload hK 6 rfl dL_law_1045 ?_
  refine g_icmp_eq hK hpr44 hpr42 (tgt := 1052) (by decide) dL_law_1047 (fun _ => ?_) (fun _ => ?_)
  · refine g_iload hK 6 rfl dL_law_1052 ?_
    refine g_if_ne hK hpr42 (tgt := 1069) (by decide) dL_law_1054 (fun _ => ?_) (fun _ => ?_)
    · refine g_goto hK (tgt := 2058) (by decide) dL_law_1069 ?_
      refine g_lv (lv2 := [(0, .ref bS), (1, .ref (Z.2.2.1 + 1)), (2, .ref (Z.2.2.1 + 292)), (3, .ref (Z.2.2.1 + 339)), (4, .ref (Z.2.2.1 + 340)), (5, .int (zi x5))]) [0, 1, 2, 3, 4, 5] rfl ?_
      exact pL_law_2058 hcx k28 hk28 x5 m30 hx5
    · refine g_aload_n hK 3 rfl rfl dL_law_1057 ?_
      refine g_iconst hK dL_law_1058 zki0 ?_
      refine g_lald hK kc_339 dL_law_1059 (fun _ hl60 => ?_)
      refine g_iload hK 7 rfl dL_law_1060 ?_
      refine g_i2l hK dL_law_1062 hpr43 ?_
      refine g_lcmp hK dL_law_1063 hl60 (zr_64 hpr43) (fun v60 hv60 => ?_)
      refine g_if_eq hK hv60 (tgt := 1069) (by decide) dL_law_1064 (fun _ => ?_) (fun _ => ?_)
      · refine g_goto hK (tgt := 2058) (by decide) dL_law_1069 ?_
        refine g_lv (lv2 := [(0, .ref bS), (1, .ref (Z.2.2.1 + 1)), (2, .ref (Z.2.2.1 + 292)), (3, .ref (Z.2.2.1 + 339)), (4, .ref (Z.2.2.1 + 340)), (5, .int (zi x5))]) [0, 1, 2, 3, 4, 5] rfl ?_
        exact pL_law_2058 hcx k28 hk28 x5 m30 hx5
      · refine g_iconst hK dL_law_1067 zki0 ?_
        exact hR0 dL_law_1068
  · refine g_iconst hK dL_law_1050 zki0 ?_
    exact hR0 dL_law_1051
set_option maxRecDepth 20000 in
set_option maxHeartbeats 2000000 in
theorem pL_law_346 {K : zK} {Z : zZ} {F : Bool × zM → State → Prop} {bS : Nat} {cb sb : Nat} {L : Nat} {xs : Nat → Int32} (hcx : zOk K Z bL_law R_law 9 (some .boolean) 2048 84000 601024 7293034 ∧ zSX K Z bS L xs ∧ zNc K.2.2.2.2.1 ∧ (∀ {cb sb pc : Nat} {lv : List (Nat × Value)} {μ : zM}, decode bL_law pc = .ok (.ireturn, 1) → zG K Z (zΩ Z) F cb sb pc lv [.int (zi 1)] μ (some (true, μ))) ∧ ∀ {cb sb pc : Nat} {lv : List (Nat × Value)} {μ : zM}, decode bL_law pc = .ok (.ireturn, 1) → zG K Z (zΩ Z) F cb sb pc lv [.int (zi 0)] μ (some (false, μ))) (k28 : Int → zM → Option (Bool × zM)) (hk28 : ∀ (x5 : Int) (μ : zM) (hx5 : zr x5), zG K Z (zΩ Z) F cb sb 28 [(0, .ref bS), (1, .ref (Z.2.2.1 + 1)), (2, .ref (Z.2.2.1 + 292)), (3, .ref (Z.2.2.1 + 339)), (4, .ref (Z.2.2.1 + 340)), (5, .int (zi x5))] [] μ (k28 x5 μ)) (x5 : Int) (μ : zM) (hx5 : zr x5) : zG K Z (zΩ Z) F (cb + 0) (sb + 0) 346 [(0, .ref bS), (1, .ref (Z.2.2.1 + 1)), (2, .ref (Z.2.2.1 + 292)), (3, .ref (Z.2.2.1 + 339)), (4, .ref (Z.2.2.1 + 340)), (5, .int (zi x5))] [] μ (fL_law_346 L xs k28 x5 μ) := by
  obtain ⟨hK, hX, hNc, hR1, hR0⟩ := id hcx
  unfold fL_law_346
  refine g_aload_n hK 1 rfl rfl dL_law_346 ?_
  refine g_callVco hK (mk := mkI) (rm := rm5_errorPosition) (cb := cb + 0) (sb := sb + 0) (As := []) (b := 1) (n := 0) (c5_errorPosition K.2.1 hK.2.2.2.2.2.2.2.2.1 Z  μ ) rfl (ci := 5) rfl (by decide) kc_1 q_496 q_497 q_498 q_1 q_499 rfl (by decide +kernel) (by decide) (Nat.le_of_ble_eq_true rfl) (Nat.le_of_ble_eq_true rfl) (Nat.le_of_ble_eq_true rfl) rfl dL_law_347 (fun r8 hr8 hpr8 => ?_)
  refine g_aload_n hK 2 rfl rfl dL_law_350 ?_
  refine g_callVcl hK (mk := mkI) (rm := rm7_errorPosition) (cb := cb + 0) (sb := sb + 0) (As := []) (b := 292) (n := 0) (c7_errorPosition K.2.1 hK.2.2.2.2.2.2.2.2.1 Z  μ ) rfl (ci := 7) rfl (by decide) kc_292 q_1415 q_1416 q_1417 q_7 q_1418 rfl (by decide +kernel) (by decide) (Nat.le_of_ble_eq_true rfl) (Nat.le_of_ble_eq_true rfl) (Nat.le_of_ble_eq_true rfl) rfl dL_law_351 (fun r9 m6 hr9 hpr9 => ?_)
  refine g_icmp_eq hK hpr8 hpr9 (tgt := 2058) (by decide) dL_law_354 (fun _ => ?_) (fun _ => ?_)
  · exact pL_law_2058 hcx k28 hk28 x5 m6 hx5
  · refine g_iconst hK dL_law_357 zki0 ?_
    exact hR0 dL_law_358
set_option maxRecDepth 20000 in
set_option maxHeartbeats 2000000 in
theorem pL_law_1753 {K : zK} {Z : zZ} {F : Bool × zM → State → Prop} {bS : Nat} {cb sb : Nat} {L : Nat} {xs : Nat → Int32} (hcx : zOk K Z bL_law R_law 9 (some .boolean) 2048 84000 601024 7293034 ∧ zSX K Z bS L xs ∧ zNc K.2.2.2.2.1 ∧ (∀ {cb sb pc : Nat} {lv : List (Nat × Value)} {μ : zM}, decode bL_law pc = .ok (.ireturn, 1) → zG K Z (zΩ Z) F cb sb pc lv [.int (zi 1)] μ (some (true, μ))) ∧ ∀ {cb sb pc : Nat} {lv : List (Nat × Value)} {μ : zM}, decode bL_law pc = .ok (.ireturn, 1) → zG K Z (zΩ Z) F cb sb pc lv [.int (zi 0)] μ (some (false, μ))) (k28 : Int → zM → Option (Bool × zM)) (hk28 : ∀ (x5 : Int) (μ : zM) (hx5 : zr x5), zG K Z (zΩ Z) F cb sb 28 [(0, .ref bS), (1, .ref (Z.2.2.1 + 1)), (2, .ref (Z.2.2.1 + 292)), (3, .ref (Z.2.2.1 + 339)), (4, .ref (Z.2.2.1 + 340)), (5, .int (zi x5))] [] μ (k28 x5 μ)) (x5 : Int) (μ : zM) (hx5 : zr x5) : zG K Z (zΩ Z) F (cb + 0) (sb + 0) 1753 [(0, .ref bS), (1, .ref (Z.2.2.1 + 1)), (2, .ref (Z.2.2.1 + 292)), (3, .ref (Z.2.2.1 + 339)), (4, .ref (Z.2.2.1 + 340)), (5, .int (zi x5))] [] μ (fL_law_1753 L xs k28 x5 μ) := by
  obtain ⟨hK, hX, hNc, hR1, hR0⟩ := id hcx
  unfold fL_law_1753
  refine g_aload_n hK 1 rfl rfl dL_law_1753 ?_
  refine g_callVcl hK (mk := mkI) (rm := rm5_next) (cb := cb + 0) (sb := sb + 0) (As := []) (b := 1) (n := 0) (c5_next K.2.1 hK.2.2.2.2.2.2.2.2.1 Z  μ ) rfl (ci := 5) rfl (by decide) kc_1 q_651 q_652 q_653 q_1 q_654 rfl (by decide +kernel) (by decide) (Nat.le_of_ble_eq_true rfl) (Nat.le_of_ble_eq_true rfl) (Nat.le_of_ble_eq_true rfl) rfl dL_law_1754 (fun r85 m59 hr85 hpr85 => ?_)
  refine g_aload_n hK 2 rfl rfl dL_law_1757 ?_
  refine g_callVcl hK (mk := mkI) (rm := rm7_next) (cb := cb + 0) (sb := sb + 0) (As := []) (b := 292) (n := 0) (c7_next K.2.1 hK.2.2.2.2.2.2.2.2.1 Z  m59 ) rfl (ci := 7) rfl (by decide) kc_292 q_1696 q_1697 q_1698 q_7 q_1699 rfl (by decide +kernel) (by decide) (Nat.le_of_ble_eq_true rfl) (Nat.le_of_ble_eq_true rfl) (Nat.le_of_ble_eq_true rfl) rfl dL_law_1758 (fun r86 m60 hr86 hpr86 => ?_)
  refine g_icmp_eq hK hpr85 hpr86 (tgt := 2058) (by decide) dL_law_1761 (fun _ => ?_) (fun _ => ?_)
  · exact pL_law_2058 hcx k28 hk28 x5 m60 hx5
  · refine g_iconst hK dL_law_1764 zki0 ?_
    exact hR0 dL_law_1765
set_option maxRecDepth 20000 in
set_option maxHeartbeats 2000000 in
theorem pL_law_1503 {K : zK} {Z : zZ} {F : Bool × zM → State → Prop} {bS : Nat} {cb sb : Nat} {L : Nat} {xs : Nat → Int32} (hcx : zOk K Z bL_law R_law 9 (some .boolean) 2048 84000 601024 7293034 ∧ zSX K Z bS L xs ∧ zNc K.2.2.2.2.1 ∧ (∀ {cb sb pc : Nat} {lv : List (Nat × Value)} {μ : zM}, decode bL_law pc = .ok (.ireturn, 1) → zG K Z (zΩ Z) F cb sb pc lv [.int (zi 1)] μ (some (true, μ))) ∧ ∀ {cb sb pc : Nat} {lv : List (Nat × Value)} {μ : zM}, decode bL_law pc = .ok (.ireturn, 1) → zG K Z (zΩ Z) F cb sb pc lv [.int (zi 0)] μ (some (false, μ))) (k28 : Int → zM → Option (Bool × zM)) (hk28 : ∀ (x5 : Int) (μ : zM) (hx5 : zr x5), zG K Z (zΩ Z) F cb sb 28 [(0, .ref bS), (1, .ref (Z.2.2.1 + 1)), (2, .ref (Z.2.2.1 + 292)), (3, .ref (Z.2.2.1 + 339)), (4, .ref (Z.2.2.1 + 340)), (5, .int (zi x5))] [] μ (k28 x5 μ)) (x5 : Int) (μ : zM) (hx5 : zr x5) : zG K Z (zΩ Z) F (cb + 2) (sb + 12) 1503 [(0, .ref bS), (1, .ref (Z.2.2.1 + 1)), (2, .ref (Z.2.2.1 + 292)), (3, .ref (Z.2.2.1 + 339)), (4, .ref (Z.2.2.1 + 340)), (5, .int (zi x5))] [] μ (fL_law_1503 L xs k28 x5 μ) := by
  obtain ⟨hK, hX, hNc, hR1, hR0⟩ := id hcx
  unfold fL_law_1503
  refine g_aload_n hK 1 rfl rfl dL_law_1503 ?_
  refine g_aload_n hK 0 rfl rfl dL_law_1504 ?_
  refine g_iload hK 5 rfl dL_law_1505 ?_
  refine g_iconst hK dL_law_1507 zki1 ?_
  refine g_iadd hK dL_law_1508 (fun v73 hv73 => ?_)
  refine g_sld hK hX dL_law_1509 (fun _ hl73 => ?_)
  refine g_aload_n hK 3 rfl rfl dL_law_1510 ?_
  refine g_callSW hK hNc (rm := rmL_wouldHide) (cb := cb + 0) (sb := sb + 0) (As := [.ref (Z.2.2.1 + 1), .int (zi ((xs (zx v73)).toInt)), .ref (Z.2.2.1 + 339)]) (n := 3) (cL_wouldHide K.2.1 hK.2.2.2.2.2.2.2.2.1 Z ((xs (zx v73)).toInt) μ hl73) q_1033 q_1034 q_0 q_1035 rfl (by decide +kernel) (by decide) (Nat.le_of_ble_eq_true rfl) (Nat.le_of_ble_eq_true rfl) (Nat.le_of_ble_eq_true rfl) rfl dL_law_1511 (fun r69 m47 hr69 hpr69 => ?_)
  refine g_istore hK (lv2 := [(0, .ref bS), (1, .ref (Z.2.2.1 + 1)), (2, .ref (Z.2.2.1 + 292)), (3, .ref (Z.2.2.1 + 339)), (4, .ref (Z.2.2.1 + 340)), (5, .int (zi x5)), (6, .int (zi r69))]) [1, 2, 3, 4, 5, 6, 0] rfl (by decide) dL_law_1514 ?_
  refine g_aload_n hK 2 rfl rfl dL_law_1516 ?_
  refine g_aload_n hK 0 rfl rfl dL_law_1517 ?_
  refine g_iload hK 5 rfl dL_law_1518 ?_
  refine g_iconst hK dL_law_1520 zki1 ?_
  refine g_iadd hK dL_law_1521 (fun v74 hv74 => ?_)
  refine g_sld hK hX dL_law_1522 (fun _ hl74 => ?_)
  refine g_callVcl hK (mk := mkI) (rm := rm7_wouldHide) (cb := cb + 0) (sb := sb + 0) (As := [.int (zi ((xs (zx v74)).toInt))]) (b := 292) (n := 1) (c7_wouldHide K.2.1 hK.2.2.2.2.2.2.2.2.1 Z ((xs (zx v74)).toInt) m47 hl74) rfl (ci := 7) rfl (by decide) kc_292 q_1640 q_1641 q_1642 q_7 q_1643 rfl (by decide +kernel) (by decide) (Nat.le_of_ble_eq_true rfl) (Nat.le_of_ble_eq_true rfl) (Nat.le_of_ble_eq_true rfl) rfl dL_law_1523 (fun r70 m48 hr70 hpr70 => ?_)
  refine g_istore hK (lv2 := [(0, .ref bS), (1, .ref (Z.2.2.1 + 1)), (2, .ref (Z.2.2.1 + 292)), (3, .ref (Z.2.2.1 + 339)), (4, .ref (Z.2.2.1 + 340)), (5, .int (zi x5)), (6, .int (zi r69)), (7, .int (zi r70))]) [1, 2, 3, 4, 5, 6, 7, 0] rfl (by decide) dL_law_1526 ?_
  refine g_aload_n hK 2 rfl rfl dL_law_1528 ?_
  refine g_callVco hK (mk := mkI) (rm := rm7_thrown) (cb := cb + 0) (sb := sb + 0) (As := []) (b := 292) (n := 0) (c7_thrown K.2.1 hK.2.2.2.2.2.2.2.2.1 Z  m48 ) rfl (ci := 7) rfl (by decide) kc_292 q_1306 q_1307 q_1308 q_7 q_1309 rfl (by decide +kernel) (by decide) (Nat.le_of_ble_eq_true rfl) (Nat.le_of_ble_eq_true rfl) (Nat.le_of_ble_eq_true rfl) rfl dL_law_1529 (fun r71 hr71 hpr71 => ?_)
  refine g_iload hK 6 rfl dL_law_1532 ?_
  refine g_icmp_eq hK hpr71 hpr69 (tgt := 1539) (by decide) dL_law_1534 (fun _ => ?_) (fun _ => ?_)
  · refine g_iload hK 6 rfl dL_law_1539 ?_
    refine g_if_ne hK hpr69 (tgt := 1556) (by decide) dL_law_1541 (fun _ => ?_) (fun _ => ?_)
    · refine g_goto hK (tgt := 2058) (by decide) dL_law_1556 ?_
      refine g_lv (lv2 := [(0, .ref bS), (1, .ref (Z.2.2.1 + 1)), (2, .ref (Z.2.2.1 + 292)), (3, .ref (Z.2.2.1 + 339)), (4, .ref (Z.2.2.1 + 340)), (5, .int (zi x5))]) [0, 1, 2, 3, 4, 5] rfl ?_
      exact pL_law_2058 hcx k28 hk28 x5 m48 hx5
    · refine g_aload_n hK 3 rfl rfl dL_law_1544 ?_
      refine g_iconst hK dL_law_1545 zki0 ?_
      refine g_lald hK kc_339 dL_law_1546 (fun _ hl75 => ?_)
      refine g_iload hK 7 rfl dL_law_1547 ?_
      refine g_i2l hK dL_law_1549 hpr70 ?_
      refine g_lcmp hK dL_law_1550 hl75 (zr_64 hpr70) (fun v75 hv75 => ?_)
      refine g_if_eq hK hv75 (tgt := 1556) (by decide) dL_law_1551 (fun _ => ?_) (fun _ => ?_)
      · refine g_goto hK (tgt := 2058) (by decide) dL_law_1556 ?_
        refine g_lv (lv2 := [(0, .ref bS), (1, .ref (Z.2.2.1 + 1)), (2, .ref (Z.2.2.1 + 292)), (3, .ref (Z.2.2.1 + 339)), (4, .ref (Z.2.2.1 + 340)), (5, .int (zi x5))]) [0, 1, 2, 3, 4, 5] rfl ?_
        exact pL_law_2058 hcx k28 hk28 x5 m48 hx5
      · refine g_iconst hK dL_law_1554 zki0 ?_
        exact hR0 dL_law_1555
  · refine g_iconst hK dL_law_1537 zki0 ?_
    exact hR0 dL_law_1538
set_option maxRecDepth 20000 in
set_option maxHeartbeats 2000000 in
theorem pL_law_1382 {K : zK} {Z : zZ} {F : Bool × zM → State → Prop} {bS : Nat} {cb sb : Nat} {L : Nat} {xs : Nat → Int32} (hcx : zOk K Z bL_law R_law 9 (some .boolean) 2048 84000 601024 7293034 ∧ zSX K Z bS L xs ∧ zNc K.2.2.2.2.1 ∧ (∀ {cb sb pc : Nat} {lv : List (Nat × Value)} {μ : zM}, decode bL_law pc = .ok (.ireturn, 1) → zG K Z (zΩ Z) F cb sb pc lv [.int (zi 1)] μ (some (true, μ))) ∧ ∀ {cb sb pc : Nat} {lv : List (Nat × Value)} {μ : zM}, decode bL_law pc = .ok (.ireturn, 1) → zG K Z (zΩ Z) F cb sb pc lv [.int (zi 0)] μ (some (false, μ))) (k28 : Int → zM → Option (Bool × zM)) (hk28 : ∀ (x5 : Int) (μ : zM) (hx5 : zr x5), zG K Z (zΩ Z) F cb sb 28 [(0, .ref bS), (1, .ref (Z.2.2.1 + 1)), (2, .ref (Z.2.2.1 + 292)), (3, .ref (Z.2.2.1 + 339)), (4, .ref (Z.2.2.1 + 340)), (5, .int (zi x5))] [] μ (k28 x5 μ)) (x5 : Int) (μ : zM) (hx5 : zr x5) : zG K Z (zΩ Z) F (cb + 1) (sb + 6) 1382 [(0, .ref bS), (1, .ref (Z.2.2.1 + 1)), (2, .ref (Z.2.2.1 + 292)), (3, .ref (Z.2.2.1 + 339)), (4, .ref (Z.2.2.1 + 340)), (5, .int (zi x5))] [] μ (fL_law_1382 L xs k28 x5 μ) := by
  obtain ⟨hK, hX, hNc, hR1, hR0⟩ := id hcx
  unfold fL_law_1382
  refine g_aload_n hK 1 rfl rfl dL_law_1382 ?_
  refine g_aload hK 4 rfl dL_law_1383 ?_
  refine g_callSW hK hNc (rm := rmL_meanLength) (cb := cb + 0) (sb := sb + 0) (As := [.ref (Z.2.2.1 + 1), .ref (Z.2.2.1 + 340)]) (n := 2) (cL_meanLength K.2.1 hK.2.2.2.2.2.2.2.2.1 Z μ ) q_1011 q_1012 q_0 q_1013 rfl (by decide +kernel) (by decide) (Nat.le_of_ble_eq_true rfl) (Nat.le_of_ble_eq_true rfl) (Nat.le_of_ble_eq_true rfl) rfl dL_law_1385 (fun r63 m43 hr63 hpr63 => ?_)
  refine g_istore hK (lv2 := [(0, .ref bS), (1, .ref (Z.2.2.1 + 1)), (2, .ref (Z.2.2.1 + 292)), (3, .ref (Z.2.2.1 + 339)), (4, .ref (Z.2.2.1 + 340)), (5, .int (zi x5)), (6, .int (zi r63))]) [1, 2, 3, 4, 5, 6, 0] rfl (by decide) dL_law_1388 ?_
  refine g_aload_n hK 2 rfl rfl dL_law_1390 ?_
  refine g_callVcl hK (mk := mkD) (rm := rm7_meanLength) (cb := cb + 0) (sb := sb + 0) (As := []) (b := 292) (n := 0) (c7_meanLength K.2.1 hK.2.2.2.2.2.2.2.2.1 Z  m43 ) rfl (ci := 7) rfl (by decide) kc_292 q_1625 q_1626 q_1627 q_7 q_1628 rfl (by decide +kernel) (by decide) (Nat.le_of_ble_eq_true rfl) (Nat.le_of_ble_eq_true rfl) (Nat.le_of_ble_eq_true rfl) rfl dL_law_1391 (fun r64 m44 hr64 hpr64 => ?_)
  refine g_dstore hK (lv2 := [(0, .ref bS), (1, .ref (Z.2.2.1 + 1)), (2, .ref (Z.2.2.1 + 292)), (3, .ref (Z.2.2.1 + 339)), (4, .ref (Z.2.2.1 + 340)), (5, .int (zi x5)), (6, .int (zi r63)), (7, .double r64)]) [1, 2, 3, 4, 5, 6, 7, 0] rfl (by decide) dL_law_1394 ?_
  refine g_aload_n hK 2 rfl rfl dL_law_1396 ?_
  refine g_callVco hK (mk := mkI) (rm := rm7_thrown) (cb := cb + 0) (sb := sb + 0) (As := []) (b := 292) (n := 0) (c7_thrown K.2.1 hK.2.2.2.2.2.2.2.2.1 Z  m44 ) rfl (ci := 7) rfl (by decide) kc_292 q_1306 q_1307 q_1308 q_7 q_1309 rfl (by decide +kernel) (by decide) (Nat.le_of_ble_eq_true rfl) (Nat.le_of_ble_eq_true rfl) (Nat.le_of_ble_eq_true rfl) rfl dL_law_1397 (fun r65 hr65 hpr65 => ?_)
  refine g_iload hK 6 rfl dL_law_1400 ?_
  refine g_icmp_eq hK hpr65 hpr63 (tgt := 1407) (by decide) dL_law_1402 (fun _ => ?_) (fun _ => ?_)
  · refine g_iload hK 6 rfl dL_law_1407 ?_
    refine g_if_ne hK hpr63 (tgt := 1444) (by decide) dL_law_1409 (fun _ => ?_) (fun _ => ?_)
    · refine g_goto hK (tgt := 2058) (by decide) dL_law_1444 ?_
      refine g_lv (lv2 := [(0, .ref bS), (1, .ref (Z.2.2.1 + 1)), (2, .ref (Z.2.2.1 + 292)), (3, .ref (Z.2.2.1 + 339)), (4, .ref (Z.2.2.1 + 340)), (5, .int (zi x5))]) [0, 1, 2, 3, 4, 5] rfl ?_
      exact pL_law_2058 hcx k28 hk28 x5 m44 hx5
    · refine g_aload hK 4 rfl dL_law_1412 ?_
      refine g_iconst hK dL_law_1414 zki0 ?_
      refine g_dald hK kc_340 dL_law_1415 (fun _ => ?_)
      refine g_dload hK 7 rfl dL_law_1416 ?_
      refine g_dceq hK (tgt := 1444) dL_law_1418 (by decide) dL_law_1419 ?_
      refine g_goto hK (tgt := 2058) (by decide) dL_law_1444 ?_
      refine g_lv (lv2 := [(0, .ref bS), (1, .ref (Z.2.2.1 + 1)), (2, .ref (Z.2.2.1 + 292)), (3, .ref (Z.2.2.1 + 339)), (4, .ref (Z.2.2.1 + 340)), (5, .int (zi x5))]) [0, 1, 2, 3, 4, 5] rfl ?_
      exact pL_law_2058 hcx k28 hk28 x5 m44 hx5
  · refine g_iconst hK dL_law_1405 zki0 ?_
    exact hR0 dL_law_1406
set_option maxRecDepth 20000 in
set_option maxHeartbeats 2000000 in
theorem pL_law_359 {K : zK} {Z : zZ} {F : Bool × zM → State → Prop} {bS : Nat} {cb sb : Nat} {L : Nat} {xs : Nat → Int32} (hcx : zOk K Z bL_law R_law 9 (some .boolean) 2048 84000 601024 7293034 ∧ zSX K Z bS L xs ∧ zNc K.2.2.2.2.1 ∧ (∀ {cb sb pc : Nat} {lv : List (Nat × Value)} {μ : zM}, decode bL_law pc = .ok (.ireturn, 1) → zG K Z (zΩ Z) F cb sb pc lv [.int (zi 1)] μ (some (true, μ))) ∧ ∀ {cb sb pc : Nat} {lv : List (Nat × Value)} {μ : zM}, decode bL_law pc = .ok (.ireturn, 1) → zG K Z (zΩ Z) F cb sb pc lv [.int (zi 0)] μ (some (false, μ))) (k28 : Int → zM → Option (Bool × zM)) (hk28 : ∀ (x5 : Int) (μ : zM) (hx5 : zr x5), zG K Z (zΩ Z) F cb sb 28 [(0, .ref bS), (1, .ref (Z.2.2.1 + 1)), (2, .ref (Z.2.2.1 + 292)), (3, .ref (Z.2.2.1 + 339)), (4, .ref (Z.2.2.1 + 340)), (5, .int (zi x5))] [] μ (k28 x5 μ)) (x5 : Int) (μ : zM) (hx5 : zr x5) : zG K Z (zΩ Z) F (cb + 0) (sb + 0) 359 [(0, .ref bS), (1, .ref (Z.2.2.1 + 1)), (2, .ref (Z.2.2.1 + 292)), (3, .ref (Z.2.2.1 + 339)), (4, .ref (Z.2.2.1 + 340)), (5, .int (zi x5))] [] μ (fL_law_359 L xs k28 x5 μ) := by
  obtain ⟨hK, hX, hNc, hR1, hR0⟩ := id hcx
  unfold fL_law_359
  refine g_aload_n hK 1 rfl rfl dL_law_359 ?_
  refine g_callVcl hK (mk := mkI) (rm := rm5_find) (cb := cb + 0) (sb := sb + 0) (As := []) (b := 1) (n := 0) (c5_find K.2.1 hK.2.2.2.2.2.2.2.2.1 Z  μ ) rfl (ci := 5) rfl (by decide) kc_1 q_500 q_501 q_502 q_1 q_503 rfl (by decide +kernel) (by decide) (Nat.le_of_ble_eq_true rfl) (Nat.le_of_ble_eq_true rfl) (Nat.le_of_ble_eq_true rfl) rfl dL_law_360 (fun r10 m7 hr10 hpr10 => ?_)
  refine g_aload_n hK 2 rfl rfl dL_law_363 ?_
  refine g_callVcl hK (mk := mkI) (rm := rm7_find) (cb := cb + 0) (sb := sb + 0) (As := []) (b := 292) (n := 0) (c7_find K.2.1 hK.2.2.2.2.2.2.2.2.1 Z  m7 ) rfl (ci := 7) rfl (by decide) kc_292 q_1419 q_1420 q_1421 q_7 q_1422 rfl (by decide +kernel) (by decide) (Nat.le_of_ble_eq_true rfl) (Nat.le_of_ble_eq_true rfl) (Nat.le_of_ble_eq_true rfl) rfl dL_law_364 (fun r11 m8 hr11 hpr11 => ?_)
  refine g_icmp_eq hK hpr10 hpr11 (tgt := 2058) (by decide) dL_law_367 (fun _ => ?_) (fun _ => ?_)
  · exact pL_law_2058 hcx k28 hk28 x5 m8 hx5
  · refine g_iconst hK dL_law_370 zki0 ?_
    exact hR0 dL_law_371
set_option maxRecDepth 20000 in
set_option maxHeartbeats 2000000 in
theorem pL_law_1128 {K : zK} {Z : zZ} {F : Bool × zM → State → Prop} {bS : Nat} {cb sb : Nat} {L : Nat} {xs : Nat → Int32} (hcx : zOk K Z bL_law R_law 9 (some .boolean) 2048 84000 601024 7293034 ∧ zSX K Z bS L xs ∧ zNc K.2.2.2.2.1 ∧ (∀ {cb sb pc : Nat} {lv : List (Nat × Value)} {μ : zM}, decode bL_law pc = .ok (.ireturn, 1) → zG K Z (zΩ Z) F cb sb pc lv [.int (zi 1)] μ (some (true, μ))) ∧ ∀ {cb sb pc : Nat} {lv : List (Nat × Value)} {μ : zM}, decode bL_law pc = .ok (.ireturn, 1) → zG K Z (zΩ Z) F cb sb pc lv [.int (zi 0)] μ (some (false, μ))) (k28 : Int → zM → Option (Bool × zM)) (hk28 : ∀ (x5 : Int) (μ : zM) (hx5 : zr x5), zG K Z (zΩ Z) F cb sb 28 [(0, .ref bS), (1, .ref (Z.2.2.1 + 1)), (2, .ref (Z.2.2.1 + 292)), (3, .ref (Z.2.2.1 + 339)), (4, .ref (Z.2.2.1 + 340)), (5, .int (zi x5))] [] μ (k28 x5 μ)) (x5 : Int) (μ : zM) (hx5 : zr x5) : zG K Z (zΩ Z) F (cb + 2) (sb + 12) 1128 [(0, .ref bS), (1, .ref (Z.2.2.1 + 1)), (2, .ref (Z.2.2.1 + 292)), (3, .ref (Z.2.2.1 + 339)), (4, .ref (Z.2.2.1 + 340)), (5, .int (zi x5))] [] μ (fL_law_1128 L xs k28 x5 μ) := by
  obtain ⟨hK, hX, hNc, hR1, hR0⟩ := id hcx
  unfold fL_law_1128
  refine g_aload_n hK 1 rfl rfl dL_law_1128 ?_
  refine g_aload_n hK 0 rfl rfl dL_law_1129 ?_
  refine g_iload hK 5 rfl dL_law_1130 ?_
  refine g_iconst hK dL_law_1132 zki1 ?_
  refine g_iadd hK dL_law_1133 (fun v64 hv64 => ?_)
  refine g_sld hK hX dL_law_1134 (fun _ hl64 => ?_)
  refine g_aload_n hK 3 rfl rfl dL_law_1135 ?_
  refine g_callSW hK hNc (rm := rmL_why) (cb := cb + 0) (sb := sb + 0) (As := [.ref (Z.2.2.1 + 1), .int (zi ((xs (zx v64)).toInt)), .ref (Z.2.2.1 + 339)]) (n := 3) (cL_why K.2.1 hK.2.2.2.2.2.2.2.2.1 Z ((xs (zx v64)).toInt) μ hl64) q_959 q_960 q_0 q_961 rfl (by decide +kernel) (by decide) (Nat.le_of_ble_eq_true rfl) (Nat.le_of_ble_eq_true rfl) (Nat.le_of_ble_eq_true rfl) rfl dL_law_1136 (fun r48 m33 hr48 hpr48 => ?_)
  refine g_istore hK (lv2 := [(0, .ref bS), (1, .ref (Z.2.2.1 + 1)), (2, .ref (Z.2.2.1 + 292)), (3, .ref (Z.2.2.1 + 339)), (4, .ref (Z.2.2.1 + 340)), (5, .int (zi x5)), (6, .int (zi r48))]) [1, 2, 3, 4, 5, 6, 0] rfl (by decide) dL_law_1139 ?_
  refine g_aload_n hK 2 rfl rfl dL_law_1141 ?_
  refine g_aload_n hK 0 rfl rfl dL_law_1142 ?_
  refine g_iload hK 5 rfl dL_law_1143 ?_
  refine g_iconst hK dL_law_1145 zki1 ?_
  refine g_iadd hK dL_law_1146 (fun v65 hv65 => ?_)
  refine g_sld hK hX dL_law_1147 (fun _ hl65 => ?_)
  refine g_callVcl hK (mk := mkI) (rm := rm7_why) (cb := cb + 0) (sb := sb + 0) (As := [.int (zi ((xs (zx v65)).toInt))]) (b := 292) (n := 1) (c7_why K.2.1 hK.2.2.2.2.2.2.2.2.1 Z ((xs (zx v65)).toInt) m33 hl65) rfl (ci := 7) rfl (by decide) kc_292 q_1597 q_1598 q_1599 q_7 q_1600 rfl (by decide +kernel) (by decide) (Nat.le_of_ble_eq_true rfl) (Nat.le_of_ble_eq_true rfl) (Nat.le_of_ble_eq_true rfl) rfl dL_law_1148 (fun r49 m34 hr49 hpr49 => ?_)
  refine g_istore hK (lv2 := [(0, .ref bS), (1, .ref (Z.2.2.1 + 1)), (2, .ref (Z.2.2.1 + 292)), (3, .ref (Z.2.2.1 + 339)), (4, .ref (Z.2.2.1 + 340)), (5, .int (zi x5)), (6, .int (zi r48)), (7, .int (zi r49))]) [1, 2, 3, 4, 5, 6, 7, 0] rfl (by decide) dL_law_1151 ?_
  refine g_aload_n hK 2 rfl rfl dL_law_1153 ?_
  refine g_callVco hK (mk := mkI) (rm := rm7_thrown) (cb := cb + 0) (sb := sb + 0) (As := []) (b := 292) (n := 0) (c7_thrown K.2.1 hK.2.2.2.2.2.2.2.2.1 Z  m34 ) rfl (ci := 7) rfl (by decide) kc_292 q_1306 q_1307 q_1308 q_7 q_1309 rfl (by decide +kernel) (by decide) (Nat.le_of_ble_eq_true rfl) (Nat.le_of_ble_eq_true rfl) (Nat.le_of_ble_eq_true rfl) rfl dL_law_1154 (fun r50 hr50 hpr50 => ?_)
  refine g_iload hK 6 rfl dL_law_1157 ?_
  refine g_icmp_eq hK hpr50 hpr48 (tgt := 1164) (by decide) dL_law_1159 (fun _ => ?_) (fun _ => ?_)
  · refine g_iload hK 6 rfl dL_law_1164 ?_
    refine g_if_ne hK hpr48 (tgt := 1181) (by decide) dL_law_1166 (fun _ => ?_) (fun _ => ?_)
    · refine g_goto hK (tgt := 2058) (by decide) dL_law_1181 ?_
      refine g_lv (lv2 := [(0, .ref bS), (1, .ref (Z.2.2.1 + 1)), (2, .ref (Z.2.2.1 + 292)), (3, .ref (Z.2.2.1 + 339)), (4, .ref (Z.2.2.1 + 340)), (5, .int (zi x5))]) [0, 1, 2, 3, 4, 5] rfl ?_
      exact pL_law_2058 hcx k28 hk28 x5 m34 hx5
    · refine g_aload_n hK 3 rfl rfl dL_law_1169 ?_
      refine g_iconst hK dL_law_1170 zki0 ?_
      refine g_lald hK kc_339 dL_law_1171 (fun _ hl66 => ?_)
      refine g_iload hK 7 rfl dL_law_1172 ?_
      refine g_i2l hK dL_law_1174 hpr49 ?_
      refine g_lcmp hK dL_law_1175 hl66 (zr_64 hpr49) (fun v66 hv66 => ?_)
      refine g_if_eq hK hv66 (tgt := 1181) (by decide) dL_law_1176 (fun _ => ?_) (fun _ => ?_)
      · refine g_goto hK (tgt := 2058) (by decide) dL_law_1181 ?_
        refine g_lv (lv2 := [(0, .ref bS), (1, .ref (Z.2.2.1 + 1)), (2, .ref (Z.2.2.1 + 292)), (3, .ref (Z.2.2.1 + 339)), (4, .ref (Z.2.2.1 + 340)), (5, .int (zi x5))]) [0, 1, 2, 3, 4, 5] rfl ?_
        exact pL_law_2058 hcx k28 hk28 x5 m34 hx5
      · refine g_iconst hK dL_law_1179 zki0 ?_
        exact hR0 dL_law_1180
  · refine g_iconst hK dL_law_1162 zki0 ?_
    exact hR0 dL_law_1163
set_option maxRecDepth 20000 in
set_option maxHeartbeats 2000000 in
theorem pL_law_1766 {K : zK} {Z : zZ} {F : Bool × zM → State → Prop} {bS : Nat} {cb sb : Nat} {L : Nat} {xs : Nat → Int32} (hcx : zOk K Z bL_law R_law 9 (some .boolean) 2048 84000 601024 7293034 ∧ zSX K Z bS L xs ∧ zNc K.2.2.2.2.1 ∧ (∀ {cb sb pc : Nat} {lv : List (Nat × Value)} {μ : zM}, decode bL_law pc = .ok (.ireturn, 1) → zG K Z (zΩ Z) F cb sb pc lv [.int (zi 1)] μ (some (true, μ))) ∧ ∀ {cb sb pc : Nat} {lv : List (Nat × Value)} {μ : zM}, decode bL_law pc = .ok (.ireturn, 1) → zG K Z (zΩ Z) F cb sb pc lv [.int (zi 0)] μ (some (false, μ))) (k28 : Int → zM → Option (Bool × zM)) (hk28 : ∀ (x5 : Int) (μ : zM) (hx5 : zr x5), zG K Z (zΩ Z) F cb sb 28 [(0, .ref bS), (1, .ref (Z.2.2.1 + 1)), (2, .ref (Z.2.2.1 + 292)), (3, .ref (Z.2.2.1 + 339)), (4, .ref (Z.2.2.1 + 340)), (5, .int (zi x5))] [] μ (k28 x5 μ)) (x5 : Int) (μ : zM) (hx5 : zr x5) : zG K Z (zΩ Z) F (cb + 0) (sb + 0) 1766 [(0, .ref bS), (1, .ref (Z.2.2.1 + 1)), (2, .ref (Z.2.2.1 + 292)), (3, .ref (Z.2.2.1 + 339)), (4, .ref (Z.2.2.1 + 340)), (5, .int (zi x5))] [] μ (fL_law_1766 L xs k28 x5 μ) := by
  obtain ⟨hK, hX, hNc, hR1, hR0⟩ := id hcx
  unfold fL_law_1766
  refine g_aload_n hK 1 rfl rfl dL_law_1766 ?_
  refine g_callVcl hK (mk := mkI) (rm := rm5_previous) (cb := cb + 0) (sb := sb + 0) (As := []) (b := 1) (n := 0) (c5_previous K.2.1 hK.2.2.2.2.2.2.2.2.1 Z  μ ) rfl (ci := 5) rfl (by decide) kc_1 q_683 q_684 q_685 q_1 q_686 rfl (by decide +kernel) (by decide) (Nat.le_of_ble_eq_true rfl) (Nat.le_of_ble_eq_true rfl) (Nat.le_of_ble_eq_true rfl) rfl dL_law_1767 (fun r87 m61 hr87 hpr87 => ?_)
  refine g_aload_n hK 2 rfl rfl dL_law_1770 ?_
  refine g_callVcl hK (mk := mkI) (rm := rm7_previous) (cb := cb + 0) (sb := sb + 0) (As := []) (b := 292) (n := 0) (c7_previous K.2.1 hK.2.2.2.2.2.2.2.2.1 Z  m61 ) rfl (ci := 7) rfl (by decide) kc_292 q_1704 q_1705 q_1706 q_7 q_1707 rfl (by decide +kernel) (by decide) (Nat.le_of_ble_eq_true rfl) (Nat.le_of_ble_eq_true rfl) (Nat.le_of_ble_eq_true rfl) rfl dL_law_1771 (fun r88 m62 hr88 hpr88 => ?_)
  refine g_icmp_eq hK hpr87 hpr88 (tgt := 2058) (by decide) dL_law_1774 (fun _ => ?_) (fun _ => ?_)
  · exact pL_law_2058 hcx k28 hk28 x5 m62 hx5
  · refine g_iconst hK dL_law_1777 zki0 ?_
    exact hR0 dL_law_1778
set_option maxRecDepth 20000 in
set_option maxHeartbeats 2000000 in
theorem pL_law_1902 {K : zK} {Z : zZ} {F : Bool × zM → State → Prop} {bS : Nat} {cb sb : Nat} {L : Nat} {xs : Nat → Int32} (hcx : zOk K Z bL_law R_law 9 (some .boolean) 2048 84000 601024 7293034 ∧ zSX K Z bS L xs ∧ zNc K.2.2.2.2.1 ∧ (∀ {cb sb pc : Nat} {lv : List (Nat × Value)} {μ : zM}, decode bL_law pc = .ok (.ireturn, 1) → zG K Z (zΩ Z) F cb sb pc lv [.int (zi 1)] μ (some (true, μ))) ∧ ∀ {cb sb pc : Nat} {lv : List (Nat × Value)} {μ : zM}, decode bL_law pc = .ok (.ireturn, 1) → zG K Z (zΩ Z) F cb sb pc lv [.int (zi 0)] μ (some (false, μ))) (k28 : Int → zM → Option (Bool × zM)) (hk28 : ∀ (x5 : Int) (μ : zM) (hx5 : zr x5), zG K Z (zΩ Z) F cb sb 28 [(0, .ref bS), (1, .ref (Z.2.2.1 + 1)), (2, .ref (Z.2.2.1 + 292)), (3, .ref (Z.2.2.1 + 339)), (4, .ref (Z.2.2.1 + 340)), (5, .int (zi x5))] [] μ (k28 x5 μ)) (x5 : Int) (μ : zM) (hx5 : zr x5) : zG K Z (zΩ Z) F (cb + 1) (sb + 6) 1902 [(0, .ref bS), (1, .ref (Z.2.2.1 + 1)), (2, .ref (Z.2.2.1 + 292)), (3, .ref (Z.2.2.1 + 339)), (4, .ref (Z.2.2.1 + 340)), (5, .int (zi x5))] [] μ (fL_law_1902 L xs k28 x5 μ) := by
  obtain ⟨hK, hX, hNc, hR1, hR0⟩ := id hcx
  unfold fL_law_1902
  refine g_aload_n hK 1 rfl rfl dL_law_1902 ?_
  refine g_aload_n hK 3 rfl rfl dL_law_1903 ?_
  refine g_callSW hK hNc (rm := rmL_undo) (cb := cb + 0) (sb := sb + 0) (As := [.ref (Z.2.2.1 + 1), .ref (Z.2.2.1 + 339)]) (n := 2) (cL_undo K.2.1 hK.2.2.2.2.2.2.2.2.1 Z μ ) q_1099 q_1100 q_0 q_1101 rfl (by decide +kernel) (by decide) (Nat.le_of_ble_eq_true rfl) (Nat.le_of_ble_eq_true rfl) (Nat.le_of_ble_eq_true rfl) rfl dL_law_1904 (fun r96 m69 hr96 hpr96 => ?_)
  refine g_istore hK (lv2 := [(0, .ref bS), (1, .ref (Z.2.2.1 + 1)), (2, .ref (Z.2.2.1 + 292)), (3, .ref (Z.2.2.1 + 339)), (4, .ref (Z.2.2.1 + 340)), (5, .int (zi x5)), (6, .int (zi r96))]) [1, 2, 3, 4, 5, 6, 0] rfl (by decide) dL_law_1907 ?_
  refine g_aload_n hK 2 rfl rfl dL_law_1909 ?_
  refine g_callVcl hK (mk := mkI) (rm := rm7_undo) (cb := cb + 0) (sb := sb + 0) (As := []) (b := 292) (n := 0) (c7_undo K.2.1 hK.2.2.2.2.2.2.2.2.1 Z  m69 ) rfl (ci := 7) rfl (by decide) kc_292 q_1724 q_1725 q_1726 q_7 q_1727 rfl (by decide +kernel) (by decide) (Nat.le_of_ble_eq_true rfl) (Nat.le_of_ble_eq_true rfl) (Nat.le_of_ble_eq_true rfl) rfl dL_law_1910 (fun r97 m70 hr97 hpr97 => ?_)
  refine g_istore hK (lv2 := [(0, .ref bS), (1, .ref (Z.2.2.1 + 1)), (2, .ref (Z.2.2.1 + 292)), (3, .ref (Z.2.2.1 + 339)), (4, .ref (Z.2.2.1 + 340)), (5, .int (zi x5)), (6, .int (zi r96)), (7, .int (zi r97))]) [1, 2, 3, 4, 5, 6, 7, 0] rfl (by decide) dL_law_1913 ?_
  refine g_aload_n hK 2 rfl rfl dL_law_1915 ?_
  refine g_callVco hK (mk := mkI) (rm := rm7_thrown) (cb := cb + 0) (sb := sb + 0) (As := []) (b := 292) (n := 0) (c7_thrown K.2.1 hK.2.2.2.2.2.2.2.2.1 Z  m70 ) rfl (ci := 7) rfl (by decide) kc_292 q_1306 q_1307 q_1308 q_7 q_1309 rfl (by decide +kernel) (by decide) (Nat.le_of_ble_eq_true rfl) (Nat.le_of_ble_eq_true rfl) (Nat.le_of_ble_eq_true rfl) rfl dL_law_1916 (fun r98 hr98 hpr98 => ?_)
  refine g_iload hK 6 rfl dL_law_1919 ?_
  refine g_icmp_eq hK hpr98 hpr96 (tgt := 1926) (by decide) dL_law_1921 (fun _ => ?_) (fun _ => ?_)
  · refine g_iload hK 6 rfl dL_law_1926 ?_
    refine g_if_ne hK hpr96 (tgt := 1943) (by decide) dL_law_1928 (fun _ => ?_) (fun _ => ?_)
    · refine g_goto hK (tgt := 2058) (by decide) dL_law_1943 ?_
      refine g_lv (lv2 := [(0, .ref bS), (1, .ref (Z.2.2.1 + 1)), (2, .ref (Z.2.2.1 + 292)), (3, .ref (Z.2.2.1 + 339)), (4, .ref (Z.2.2.1 + 340)), (5, .int (zi x5))]) [0, 1, 2, 3, 4, 5] rfl ?_
      exact pL_law_2058 hcx k28 hk28 x5 m70 hx5
    · refine g_aload_n hK 3 rfl rfl dL_law_1931 ?_
      refine g_iconst hK dL_law_1932 zki0 ?_
      refine g_lald hK kc_339 dL_law_1933 (fun _ hl89 => ?_)
      refine g_iload hK 7 rfl dL_law_1934 ?_
      refine g_i2l hK dL_law_1936 hpr97 ?_
      refine g_lcmp hK dL_law_1937 hl89 (zr_64 hpr97) (fun v89 hv89 => ?_)
      refine g_if_eq hK hv89 (tgt := 1943) (by decide) dL_law_1938 (fun _ => ?_) (fun _ => ?_)
      · refine g_goto hK (tgt := 2058) (by decide) dL_law_1943 ?_
        refine g_lv (lv2 := [(0, .ref bS), (1, .ref (Z.2.2.1 + 1)), (2, .ref (Z.2.2.1 + 292)), (3, .ref (Z.2.2.1 + 339)), (4, .ref (Z.2.2.1 + 340)), (5, .int (zi x5))]) [0, 1, 2, 3, 4, 5] rfl ?_
        exact pL_law_2058 hcx k28 hk28 x5 m70 hx5
      · refine g_iconst hK dL_law_1941 zki0 ?_
        exact hR0 dL_law_1942
  · refine g_iconst hK dL_law_1924 zki0 ?_
    exact hR0 dL_law_1925
set_option maxRecDepth 20000 in
set_option maxHeartbeats 2000000 in
theorem pL_law_496 {K : zK} {Z : zZ} {F : Bool × zM → State → Prop} {bS : Nat} {cb sb : Nat} {L : Nat} {xs : Nat → Int32} (hcx : zOk K Z bL_law R_law 9 (some .boolean) 2048 84000 601024 7293034 ∧ zSX K Z bS L xs ∧ zNc K.2.2.2.2.1 ∧ (∀ {cb sb pc : Nat} {lv : List (Nat × Value)} {μ : zM}, decode bL_law pc = .ok (.ireturn, 1) → zG K Z (zΩ Z) F cb sb pc lv [.int (zi 1)] μ (some (true, μ))) ∧ ∀ {cb sb pc : Nat} {lv : List (Nat × Value)} {μ : zM}, decode bL_law pc = .ok (.ireturn, 1) → zG K Z (zΩ Z) F cb sb pc lv [.int (zi 0)] μ (some (false, μ))) (k28 : Int → zM → Option (Bool × zM)) (hk28 : ∀ (x5 : Int) (μ : zM) (hx5 : zr x5), zG K Z (zΩ Z) F cb sb 28 [(0, .ref bS), (1, .ref (Z.2.2.1 + 1)), (2, .ref (Z.2.2.1 + 292)), (3, .ref (Z.2.2.1 + 339)), (4, .ref (Z.2.2.1 + 340)), (5, .int (zi x5))] [] μ (k28 x5 μ)) (x5 : Int) (μ : zM) (hx5 : zr x5) : zG K Z (zΩ Z) F (cb + 1) (sb + 6) 496 [(0, .ref bS), (1, .ref (Z.2.2.1 + 1)), (2, .ref (Z.2.2.1 + 292)), (3, .ref (Z.2.2.1 + 339)), (4, .ref (Z.2.2.1 + 340)), (5, .int (zi x5))] [] μ (fL_law_496 L xs k28 x5 μ) := by
  obtain ⟨hK, hX, hNc, hR1, hR0⟩ := id hcx
  unfold fL_law_496
  refine g_aload_n hK 1 rfl rfl dL_law_496 ?_
  refine g_aload_n hK 0 rfl rfl dL_law_497 ?_
  refine g_iload hK 5 rfl dL_law_498 ?_
  refine g_iconst hK dL_law_500 zki1 ?_
  refine g_iadd hK dL_law_501 (fun v22 hv22 => ?_)
  refine g_sld hK hX dL_law_502 (fun _ hl22 => ?_)
  refine g_aload_n hK 0 rfl rfl dL_law_503 ?_
  refine g_iload hK 5 rfl dL_law_504 ?_
  refine g_iconst hK dL_law_506 zki2 ?_
  refine g_iadd hK dL_law_507 (fun v23 hv23 => ?_)
  refine g_sld hK hX dL_law_508 (fun _ hl23 => ?_)
  refine g_aload_n hK 3 rfl rfl dL_law_509 ?_
  refine g_callSW hK hNc (rm := rmL_letter) (cb := cb + 0) (sb := sb + 0) (As := [.ref (Z.2.2.1 + 1), .int (zi ((xs (zx v22)).toInt)), .int (zi ((xs (zx v23)).toInt)), .ref (Z.2.2.1 + 339)]) (n := 4) (cL_letter K.2.1 hK.2.2.2.2.2.2.2.2.1 Z ((xs (zx v22)).toInt) ((xs (zx v23)).toInt) μ hl22 hl23) q_849 q_850 q_0 q_851 rfl (by decide +kernel) (by decide) (Nat.le_of_ble_eq_true rfl) (Nat.le_of_ble_eq_true rfl) (Nat.le_of_ble_eq_true rfl) rfl dL_law_510 (fun r18 m13 hr18 hpr18 => ?_)
  refine g_istore hK (lv2 := [(0, .ref bS), (1, .ref (Z.2.2.1 + 1)), (2, .ref (Z.2.2.1 + 292)), (3, .ref (Z.2.2.1 + 339)), (4, .ref (Z.2.2.1 + 340)), (5, .int (zi x5)), (6, .int (zi r18))]) [1, 2, 3, 4, 5, 6, 0] rfl (by decide) dL_law_513 ?_
  refine g_aload_n hK 2 rfl rfl dL_law_515 ?_
  refine g_aload_n hK 0 rfl rfl dL_law_516 ?_
  refine g_iload hK 5 rfl dL_law_517 ?_
  refine g_iconst hK dL_law_519 zki1 ?_
  refine g_iadd hK dL_law_520 (fun v24 hv24 => ?_)
  refine g_sld hK hX dL_law_521 (fun _ hl24 => ?_)
  refine g_aload_n hK 0 rfl rfl dL_law_522 ?_
  refine g_iload hK 5 rfl dL_law_523 ?_
  refine g_iconst hK dL_law_525 zki2 ?_
  refine g_iadd hK dL_law_526 (fun v25 hv25 => ?_)
  refine g_sld hK hX dL_law_527 (fun _ hl25 => ?_)
  refine g_callVcl hK (mk := mkI) (rm := rm7_letter) (cb := cb + 0) (sb := sb + 0) (As := [.int (zi ((xs (zx v24)).toInt)), .int (zi ((xs (zx v25)).toInt))]) (b := 292) (n := 2) (c7_letter K.2.1 hK.2.2.2.2.2.2.2.2.1 Z ((xs (zx v24)).toInt) ((xs (zx v25)).toInt) m13 hl24 hl25) rfl (ci := 7) rfl (by decide) kc_292 q_1448 q_1449 q_1450 q_7 q_1451 rfl (by decide +kernel) (by decide) (Nat.le_of_ble_eq_true rfl) (Nat.le_of_ble_eq_true rfl) (Nat.le_of_ble_eq_true rfl) rfl dL_law_528 (fun r19 m14 hr19 hpr19 => ?_)
  refine g_istore hK (lv2 := [(0, .ref bS), (1, .ref (Z.2.2.1 + 1)), (2, .ref (Z.2.2.1 + 292)), (3, .ref (Z.2.2.1 + 339)), (4, .ref (Z.2.2.1 + 340)), (5, .int (zi x5)), (6, .int (zi r18)), (7, .int (zi r19))]) [1, 2, 3, 4, 5, 6, 7, 0] rfl (by decide) dL_law_531 ?_
  refine g_aload_n hK 2 rfl rfl dL_law_533 ?_
  refine g_callVco hK (mk := mkI) (rm := rm7_thrown) (cb := cb + 0) (sb := sb + 0) (As := []) (b := 292) (n := 0) (c7_thrown K.2.1 hK.2.2.2.2.2.2.2.2.1 Z  m14 ) rfl (ci := 7) rfl (by decide) kc_292 q_1306 q_1307 q_1308 q_7 q_1309 rfl (by decide +kernel) (by decide) (Nat.le_of_ble_eq_true rfl) (Nat.le_of_ble_eq_true rfl) (Nat.le_of_ble_eq_true rfl) rfl dL_law_534 (fun r20 hr20 hpr20 => ?_)
  refine g_iload hK 6 rfl dL_law_537 ?_
  refine g_icmp_eq hK hpr20 hpr18 (tgt := 544) (by decide) dL_law_539 (fun _ => ?_) (fun _ => ?_)
  · refine g_iload hK 6 rfl dL_law_544 ?_
    refine g_if_ne hK hpr18 (tgt := 561) (by decide) dL_law_546 (fun _ => ?_) (fun _ => ?_)
    · refine g_goto hK (tgt := 2058) (by decide) dL_law_561 ?_
      refine g_lv (lv2 := [(0, .ref bS), (1, .ref (Z.2.2.1 + 1)), (2, .ref (Z.2.2.1 + 292)), (3, .ref (Z.2.2.1 + 339)), (4, .ref (Z.2.2.1 + 340)), (5, .int (zi x5))]) [0, 1, 2, 3, 4, 5] rfl ?_
      exact pL_law_2058 hcx k28 hk28 x5 m14 hx5
    · refine g_aload_n hK 3 rfl rfl dL_law_549 ?_
      refine g_iconst hK dL_law_550 zki0 ?_
      refine g_lald hK kc_339 dL_law_551 (fun _ hl26 => ?_)
      refine g_iload hK 7 rfl dL_law_552 ?_
      refine g_i2l hK dL_law_554 hpr19 ?_
      refine g_lcmp hK dL_law_555 hl26 (zr_64 hpr19) (fun v26 hv26 => ?_)
      refine g_if_eq hK hv26 (tgt := 561) (by decide) dL_law_556 (fun _ => ?_) (fun _ => ?_)
      · refine g_goto hK (tgt := 2058) (by decide) dL_law_561 ?_
        refine g_lv (lv2 := [(0, .ref bS), (1, .ref (Z.2.2.1 + 1)), (2, .ref (Z.2.2.1 + 292)), (3, .ref (Z.2.2.1 + 339)), (4, .ref (Z.2.2.1 + 340)), (5, .int (zi x5))]) [0, 1, 2, 3, 4, 5] rfl ?_
        exact pL_law_2058 hcx k28 hk28 x5 m14 hx5
      · refine g_iconst hK dL_law_559 zki0 ?_
        exact hR0 dL_law_560
  · refine g_iconst hK dL_law_542 zki0 ?_
    exact hR0 dL_law_543
set_option maxRecDepth 20000 in
set_option maxHeartbeats 2000000 in
theorem pL_law_880 {K : zK} {Z : zZ} {F : Bool × zM → State → Prop} {bS : Nat} {cb sb : Nat} {L : Nat} {xs : Nat → Int32} (hcx : zOk K Z bL_law R_law 9 (some .boolean) 2048 84000 601024 7293034 ∧ zSX K Z bS L xs ∧ zNc K.2.2.2.2.1 ∧ (∀ {cb sb pc : Nat} {lv : List (Nat × Value)} {μ : zM}, decode bL_law pc = .ok (.ireturn, 1) → zG K Z (zΩ Z) F cb sb pc lv [.int (zi 1)] μ (some (true, μ))) ∧ ∀ {cb sb pc : Nat} {lv : List (Nat × Value)} {μ : zM}, decode bL_law pc = .ok (.ireturn, 1) → zG K Z (zΩ Z) F cb sb pc lv [.int (zi 0)] μ (some (false, μ))) (k28 : Int → zM → Option (Bool × zM)) (hk28 : ∀ (x5 : Int) (μ : zM) (hx5 : zr x5), zG K Z (zΩ Z) F cb sb 28 [(0, .ref bS), (1, .ref (Z.2.2.1 + 1)), (2, .ref (Z.2.2.1 + 292)), (3, .ref (Z.2.2.1 + 339)), (4, .ref (Z.2.2.1 + 340)), (5, .int (zi x5))] [] μ (k28 x5 μ)) (x5 : Int) (μ : zM) (hx5 : zr x5) : zG K Z (zΩ Z) F (cb + 2) (sb + 12) 880 [(0, .ref bS), (1, .ref (Z.2.2.1 + 1)), (2, .ref (Z.2.2.1 + 292)), (3, .ref (Z.2.2.1 + 339)), (4, .ref (Z.2.2.1 + 340)), (5, .int (zi x5))] [] μ (fL_law_880 L xs k28 x5 μ) := by
  obtain ⟨hK, hX, hNc, hR1, hR0⟩ := id hcx
  unfold fL_law_880
  refine g_aload_n hK 1 rfl rfl dL_law_880 ?_
  refine g_aload_n hK 0 rfl rfl dL_law_881 ?_
  refine g_iload hK 5 rfl dL_law_882 ?_
  refine g_iconst hK dL_law_884 zki1 ?_
  refine g_iadd hK dL_law_885 (fun v48 hv48 => ?_)
  refine g_sld hK hX dL_law_886 (fun _ hl48 => ?_)
  refine g_aload_n hK 0 rfl rfl dL_law_887 ?_
  refine g_iload hK 5 rfl dL_law_888 ?_
  refine g_iconst hK dL_law_890 zki2 ?_
  refine g_iadd hK dL_law_891 (fun v49 hv49 => ?_)
  refine g_sld hK hX dL_law_892 (fun _ hl49 => ?_)
  refine g_aload_n hK 3 rfl rfl dL_law_893 ?_
  refine g_callSW hK hNc (rm := rmL_value) (cb := cb + 0) (sb := sb + 0) (As := [.ref (Z.2.2.1 + 1), .int (zi ((xs (zx v48)).toInt)), .int (zi ((xs (zx v49)).toInt)), .ref (Z.2.2.1 + 339)]) (n := 4) (cL_value K.2.1 hK.2.2.2.2.2.2.2.2.1 Z ((xs (zx v48)).toInt) ((xs (zx v49)).toInt) μ hl48 hl49) q_916 q_917 q_0 q_918 rfl (by decide +kernel) (by decide) (Nat.le_of_ble_eq_true rfl) (Nat.le_of_ble_eq_true rfl) (Nat.le_of_ble_eq_true rfl) rfl dL_law_894 (fun r36 m25 hr36 hpr36 => ?_)
  refine g_istore hK (lv2 := [(0, .ref bS), (1, .ref (Z.2.2.1 + 1)), (2, .ref (Z.2.2.1 + 292)), (3, .ref (Z.2.2.1 + 339)), (4, .ref (Z.2.2.1 + 340)), (5, .int (zi x5)), (6, .int (zi r36))]) [1, 2, 3, 4, 5, 6, 0] rfl (by decide) dL_law_897 ?_
  refine g_aload_n hK 2 rfl rfl dL_law_899 ?_
  refine g_aload_n hK 0 rfl rfl dL_law_900 ?_
  refine g_iload hK 5 rfl dL_law_901 ?_
  refine g_iconst hK dL_law_903 zki1 ?_
  refine g_iadd hK dL_law_904 (fun v50 hv50 => ?_)
  refine g_sld hK hX dL_law_905 (fun _ hl50 => ?_)
  refine g_aload_n hK 0 rfl rfl dL_law_906 ?_
  refine g_iload hK 5 rfl dL_law_907 ?_
  refine g_iconst hK dL_law_909 zki2 ?_
  refine g_iadd hK dL_law_910 (fun v51 hv51 => ?_)
  refine g_sld hK hX dL_law_911 (fun _ hl51 => ?_)
  refine g_callVcl hK (mk := mkI) (rm := rm7_value) (cb := cb + 0) (sb := sb + 0) (As := [.int (zi ((xs (zx v50)).toInt)), .int (zi ((xs (zx v51)).toInt))]) (b := 292) (n := 2) (c7_value K.2.1 hK.2.2.2.2.2.2.2.2.1 Z ((xs (zx v50)).toInt) ((xs (zx v51)).toInt) m25 hl50 hl51) rfl (ci := 7) rfl (by decide) kc_292 q_1546 q_1547 q_1548 q_7 q_1549 rfl (by decide +kernel) (by decide) (Nat.le_of_ble_eq_true rfl) (Nat.le_of_ble_eq_true rfl) (Nat.le_of_ble_eq_true rfl) rfl dL_law_912 (fun r37 m26 hr37 hpr37 => ?_)
  refine g_istore hK (lv2 := [(0, .ref bS), (1, .ref (Z.2.2.1 + 1)), (2, .ref (Z.2.2.1 + 292)), (3, .ref (Z.2.2.1 + 339)), (4, .ref (Z.2.2.1 + 340)), (5, .int (zi x5)), (6, .int (zi r36)), (7, .int (zi r37))]) [1, 2, 3, 4, 5, 6, 7, 0] rfl (by decide) dL_law_915 ?_
  refine g_aload_n hK 2 rfl rfl dL_law_917 ?_
  refine g_callVco hK (mk := mkI) (rm := rm7_thrown) (cb := cb + 0) (sb := sb + 0) (As := []) (b := 292) (n := 0) (c7_thrown K.2.1 hK.2.2.2.2.2.2.2.2.1 Z  m26 ) rfl (ci := 7) rfl (by decide) kc_292 q_1306 q_1307 q_1308 q_7 q_1309 rfl (by decide +kernel) (by decide) (Nat.le_of_ble_eq_true rfl) (Nat.le_of_ble_eq_true rfl) (Nat.le_of_ble_eq_true rfl) rfl dL_law_918 (fun r38 hr38 hpr38 => ?_)
  refine g_iload hK 6 rfl dL_law_921 ?_
  refine g_icmp_eq hK hpr38 hpr36 (tgt := 928) (by decide) dL_law_923 (fun _ => ?_) (fun _ => ?_)
  · refine g_iload hK 6 rfl dL_law_928 ?_
    refine g_if_ne hK hpr36 (tgt := 945) (by decide) dL_law_930 (fun _ => ?_) (fun _ => ?_)
    · refine g_goto hK (tgt := 2058) (by decide) dL_law_945 ?_
      refine g_lv (lv2 := [(0, .ref bS), (1, .ref (Z.2.2.1 + 1)), (2, .ref (Z.2.2.1 + 292)), (3, .ref (Z.2.2.1 + 339)), (4, .ref (Z.2.2.1 + 340)), (5, .int (zi x5))]) [0, 1, 2, 3, 4, 5] rfl ?_
      exact pL_law_2058 hcx k28 hk28 x5 m26 hx5
    · refine g_aload_n hK 3 rfl rfl dL_law_933 ?_
      refine g_iconst hK dL_law_934 zki0 ?_
      refine g_lald hK kc_339 dL_law_935 (fun _ hl52 => ?_)
      refine g_iload hK 7 rfl dL_law_936 ?_
      refine g_i2l hK dL_law_938 hpr37 ?_
      refine g_lcmp hK dL_law_939 hl52 (zr_64 hpr37) (fun v52 hv52 => ?_)
      refine g_if_eq hK hv52 (tgt := 945) (by decide) dL_law_940 (fun _ => ?_) (fun _ => ?_)
      · refine g_goto hK (tgt := 2058) (by decide) dL_law_945 ?_
        refine g_lv (lv2 := [(0, .ref bS), (1, .ref (Z.2.2.1 + 1)), (2, .ref (Z.2.2.1 + 292)), (3, .ref (Z.2.2.1 + 339)), (4, .ref (Z.2.2.1 + 340)), (5, .int (zi x5))]) [0, 1, 2, 3, 4, 5] rfl ?_
        exact pL_law_2058 hcx k28 hk28 x5 m26 hx5
      · refine g_iconst hK dL_law_943 zki0 ?_
        exact hR0 dL_law_944
  · refine g_iconst hK dL_law_926 zki0 ?_
    exact hR0 dL_law_927
set_option maxRecDepth 20000 in
set_option maxHeartbeats 2000000 in
theorem pL_law_1779 {K : zK} {Z : zZ} {F : Bool × zM → State → Prop} {bS : Nat} {cb sb : Nat} {L : Nat} {xs : Nat → Int32} (hcx : zOk K Z bL_law R_law 9 (some .boolean) 2048 84000 601024 7293034 ∧ zSX K Z bS L xs ∧ zNc K.2.2.2.2.1 ∧ (∀ {cb sb pc : Nat} {lv : List (Nat × Value)} {μ : zM}, decode bL_law pc = .ok (.ireturn, 1) → zG K Z (zΩ Z) F cb sb pc lv [.int (zi 1)] μ (some (true, μ))) ∧ ∀ {cb sb pc : Nat} {lv : List (Nat × Value)} {μ : zM}, decode bL_law pc = .ok (.ireturn, 1) → zG K Z (zΩ Z) F cb sb pc lv [.int (zi 0)] μ (some (false, μ))) (k28 : Int → zM → Option (Bool × zM)) (hk28 : ∀ (x5 : Int) (μ : zM) (hx5 : zr x5), zG K Z (zΩ Z) F cb sb 28 [(0, .ref bS), (1, .ref (Z.2.2.1 + 1)), (2, .ref (Z.2.2.1 + 292)), (3, .ref (Z.2.2.1 + 339)), (4, .ref (Z.2.2.1 + 340)), (5, .int (zi x5))] [] μ (k28 x5 μ)) (x5 : Int) (μ : zM) (hx5 : zr x5) : zG K Z (zΩ Z) F (cb + 1) (sb + 6) 1779 [(0, .ref bS), (1, .ref (Z.2.2.1 + 1)), (2, .ref (Z.2.2.1 + 292)), (3, .ref (Z.2.2.1 + 339)), (4, .ref (Z.2.2.1 + 340)), (5, .int (zi x5))] [] μ (fL_law_1779 L xs k28 x5 μ) := by
  obtain ⟨hK, hX, hNc, hR1, hR0⟩ := id hcx
  unfold fL_law_1779
  refine g_aload_n hK 1 rfl rfl dL_law_1779 ?_
  refine g_aload_n hK 0 rfl rfl dL_law_1780 ?_
  refine g_iload hK 5 rfl dL_law_1781 ?_
  refine g_iconst hK dL_law_1783 zki1 ?_
  refine g_iadd hK dL_law_1784 (fun v85 hv85 => ?_)
  refine g_sld hK hX dL_law_1785 (fun _ hl85 => ?_)
  refine g_aload_n hK 3 rfl rfl dL_law_1786 ?_
  refine g_callSW hK hNc (rm := rmL_go) (cb := cb + 0) (sb := sb + 0) (As := [.ref (Z.2.2.1 + 1), .int (zi ((xs (zx v85)).toInt)), .ref (Z.2.2.1 + 339)]) (n := 3) (cL_go K.2.1 hK.2.2.2.2.2.2.2.2.1 Z ((xs (zx v85)).toInt) μ hl85) q_1092 q_1093 q_0 q_1094 rfl (by decide +kernel) (by decide) (Nat.le_of_ble_eq_true rfl) (Nat.le_of_ble_eq_true rfl) (Nat.le_of_ble_eq_true rfl) rfl dL_law_1787 (fun r89 m63 hr89 hpr89 => ?_)
  refine g_istore hK (lv2 := [(0, .ref bS), (1, .ref (Z.2.2.1 + 1)), (2, .ref (Z.2.2.1 + 292)), (3, .ref (Z.2.2.1 + 339)), (4, .ref (Z.2.2.1 + 340)), (5, .int (zi x5)), (6, .int (zi r89))]) [1, 2, 3, 4, 5, 6, 0] rfl (by decide) dL_law_1790 ?_
  refine g_aload_n hK 2 rfl rfl dL_law_1792 ?_
  refine g_aload_n hK 0 rfl rfl dL_law_1793 ?_
  refine g_iload hK 5 rfl dL_law_1794 ?_
  refine g_iconst hK dL_law_1796 zki1 ?_
  refine g_iadd hK dL_law_1797 (fun v86 hv86 => ?_)
  refine g_sld hK hX dL_law_1798 (fun _ hl86 => ?_)
  refine g_callVcl hK (mk := mkI) (rm := rm7_go) (cb := cb + 0) (sb := sb + 0) (As := [.int (zi ((xs (zx v86)).toInt))]) (b := 292) (n := 1) (c7_go K.2.1 hK.2.2.2.2.2.2.2.2.1 Z ((xs (zx v86)).toInt) m63 hl86) rfl (ci := 7) rfl (by decide) kc_292 q_1708 q_1709 q_1710 q_7 q_1711 rfl (by decide +kernel) (by decide) (Nat.le_of_ble_eq_true rfl) (Nat.le_of_ble_eq_true rfl) (Nat.le_of_ble_eq_true rfl) rfl dL_law_1799 (fun r90 m64 hr90 hpr90 => ?_)
  refine g_istore hK (lv2 := [(0, .ref bS), (1, .ref (Z.2.2.1 + 1)), (2, .ref (Z.2.2.1 + 292)), (3, .ref (Z.2.2.1 + 339)), (4, .ref (Z.2.2.1 + 340)), (5, .int (zi x5)), (6, .int (zi r89)), (7, .int (zi r90))]) [1, 2, 3, 4, 5, 6, 7, 0] rfl (by decide) dL_law_1802 ?_
  refine g_aload_n hK 2 rfl rfl dL_law_1804 ?_
  refine g_callVco hK (mk := mkI) (rm := rm7_thrown) (cb := cb + 0) (sb := sb + 0) (As := []) (b := 292) (n := 0) (c7_thrown K.2.1 hK.2.2.2.2.2.2.2.2.1 Z  m64 ) rfl (ci := 7) rfl (by decide) kc_292 q_1306 q_1307 q_1308 q_7 q_1309 rfl (by decide +kernel) (by decide) (Nat.le_of_ble_eq_true rfl) (Nat.le_of_ble_eq_true rfl) (Nat.le_of_ble_eq_true rfl) rfl dL_law_1805 (fun r91 hr91 hpr91 => ?_)
  refine g_iload hK 6 rfl dL_law_1808 ?_
  refine g_icmp_eq hK hpr91 hpr89 (tgt := 1815) (by decide) dL_law_1810 (fun _ => ?_) (fun _ => ?_)
  · refine g_iload hK 6 rfl dL_law_1815 ?_
    refine g_if_ne hK hpr89 (tgt := 1832) (by decide) dL_law_1817 (fun _ => ?_) (fun _ => ?_)
    · refine g_goto hK (tgt := 2058) (by decide) dL_law_1832 ?_
      refine g_lv (lv2 := [(0, .ref bS), (1, .ref (Z.2.2.1 + 1)), (2, .ref (Z.2.2.1 + 292)), (3, .ref (Z.2.2.1 + 339)), (4, .ref (Z.2.2.1 + 340)), (5, .int (zi x5))]) [0, 1, 2, 3, 4, 5] rfl ?_
      exact pL_law_2058 hcx k28 hk28 x5 m64 hx5
    · refine g_aload_n hK 3 rfl rfl dL_law_1820 ?_
      refine g_iconst hK dL_law_1821 zki0 ?_
      refine g_lald hK kc_339 dL_law_1822 (fun _ hl87 => ?_)
      refine g_iload hK 7 rfl dL_law_1823 ?_
      refine g_i2l hK dL_law_1825 hpr90 ?_
      refine g_lcmp hK dL_law_1826 hl87 (zr_64 hpr90) (fun v87 hv87 => ?_)
      refine g_if_eq hK hv87 (tgt := 1832) (by decide) dL_law_1827 (fun _ => ?_) (fun _ => ?_)
      · refine g_goto hK (tgt := 2058) (by decide) dL_law_1832 ?_
        refine g_lv (lv2 := [(0, .ref bS), (1, .ref (Z.2.2.1 + 1)), (2, .ref (Z.2.2.1 + 292)), (3, .ref (Z.2.2.1 + 339)), (4, .ref (Z.2.2.1 + 340)), (5, .int (zi x5))]) [0, 1, 2, 3, 4, 5] rfl ?_
        exact pL_law_2058 hcx k28 hk28 x5 m64 hx5
      · refine g_iconst hK dL_law_1830 zki0 ?_
        exact hR0 dL_law_1831
  · refine g_iconst hK dL_law_1813 zki0 ?_
    exact hR0 dL_law_1814
set_option maxRecDepth 20000 in
set_option maxHeartbeats 2000000 in
theorem pL_law_372 {K : zK} {Z : zZ} {F : Bool × zM → State → Prop} {bS : Nat} {cb sb : Nat} {L : Nat} {xs : Nat → Int32} (hcx : zOk K Z bL_law R_law 9 (some .boolean) 2048 84000 601024 7293034 ∧ zSX K Z bS L xs ∧ zNc K.2.2.2.2.1 ∧ (∀ {cb sb pc : Nat} {lv : List (Nat × Value)} {μ : zM}, decode bL_law pc = .ok (.ireturn, 1) → zG K Z (zΩ Z) F cb sb pc lv [.int (zi 1)] μ (some (true, μ))) ∧ ∀ {cb sb pc : Nat} {lv : List (Nat × Value)} {μ : zM}, decode bL_law pc = .ok (.ireturn, 1) → zG K Z (zΩ Z) F cb sb pc lv [.int (zi 0)] μ (some (false, μ))) (k28 : Int → zM → Option (Bool × zM)) (hk28 : ∀ (x5 : Int) (μ : zM) (hx5 : zr x5), zG K Z (zΩ Z) F cb sb 28 [(0, .ref bS), (1, .ref (Z.2.2.1 + 1)), (2, .ref (Z.2.2.1 + 292)), (3, .ref (Z.2.2.1 + 339)), (4, .ref (Z.2.2.1 + 340)), (5, .int (zi x5))] [] μ (k28 x5 μ)) (x5 : Int) (μ : zM) (hx5 : zr x5) : zG K Z (zΩ Z) F (cb + 1) (sb + 6) 372 [(0, .ref bS), (1, .ref (Z.2.2.1 + 1)), (2, .ref (Z.2.2.1 + 292)), (3, .ref (Z.2.2.1 + 339)), (4, .ref (Z.2.2.1 + 340)), (5, .int (zi x5))] [] μ (fL_law_372 L xs k28 x5 μ) := by
  obtain ⟨hK, hX, hNc, hR1, hR0⟩ := id hcx
  unfold fL_law_372
  refine g_aload_n hK 1 rfl rfl dL_law_372 ?_
  refine g_aload_n hK 0 rfl rfl dL_law_373 ?_
  refine g_iload hK 5 rfl dL_law_374 ?_
  refine g_iconst hK dL_law_376 zki1 ?_
  refine g_iadd hK dL_law_377 (fun v14 hv14 => ?_)
  refine g_sld hK hX dL_law_378 (fun _ hl14 => ?_)
  refine g_aload_n hK 3 rfl rfl dL_law_379 ?_
  refine g_callSW hK hNc (rm := rmL_size) (cb := cb + 0) (sb := sb + 0) (As := [.ref (Z.2.2.1 + 1), .int (zi ((xs (zx v14)).toInt)), .ref (Z.2.2.1 + 339)]) (n := 3) (cL_size K.2.1 hK.2.2.2.2.2.2.2.2.1 Z ((xs (zx v14)).toInt) μ hl14) q_782 q_783 q_0 q_784 rfl (by decide +kernel) (by decide) (Nat.le_of_ble_eq_true rfl) (Nat.le_of_ble_eq_true rfl) (Nat.le_of_ble_eq_true rfl) rfl dL_law_380 (fun r12 m9 hr12 hpr12 => ?_)
  refine g_istore hK (lv2 := [(0, .ref bS), (1, .ref (Z.2.2.1 + 1)), (2, .ref (Z.2.2.1 + 292)), (3, .ref (Z.2.2.1 + 339)), (4, .ref (Z.2.2.1 + 340)), (5, .int (zi x5)), (6, .int (zi r12))]) [1, 2, 3, 4, 5, 6, 0] rfl (by decide) dL_law_383 ?_
  refine g_aload_n hK 2 rfl rfl dL_law_385 ?_
  refine g_aload_n hK 0 rfl rfl dL_law_386 ?_
  refine g_iload hK 5 rfl dL_law_387 ?_
  refine g_iconst hK dL_law_389 zki1 ?_
  refine g_iadd hK dL_law_390 (fun v15 hv15 => ?_)
  refine g_sld hK hX dL_law_391 (fun _ hl15 => ?_)
  refine g_callVcl hK (mk := mkI) (rm := rm7_size) (cb := cb + 0) (sb := sb + 0) (As := [.int (zi ((xs (zx v15)).toInt))]) (b := 292) (n := 1) (c7_size K.2.1 hK.2.2.2.2.2.2.2.2.1 Z ((xs (zx v15)).toInt) m9 hl15) rfl (ci := 7) rfl (by decide) kc_292 q_1423 q_1424 q_1425 q_7 q_1426 rfl (by decide +kernel) (by decide) (Nat.le_of_ble_eq_true rfl) (Nat.le_of_ble_eq_true rfl) (Nat.le_of_ble_eq_true rfl) rfl dL_law_392 (fun r13 m10 hr13 hpr13 => ?_)
  refine g_istore hK (lv2 := [(0, .ref bS), (1, .ref (Z.2.2.1 + 1)), (2, .ref (Z.2.2.1 + 292)), (3, .ref (Z.2.2.1 + 339)), (4, .ref (Z.2.2.1 + 340)), (5, .int (zi x5)), (6, .int (zi r12)), (7, .int (zi r13))]) [1, 2, 3, 4, 5, 6, 7, 0] rfl (by decide) dL_law_395 ?_
  refine g_aload_n hK 2 rfl rfl dL_law_397 ?_
  refine g_callVco hK (mk := mkI) (rm := rm7_thrown) (cb := cb + 0) (sb := sb + 0) (As := []) (b := 292) (n := 0) (c7_thrown K.2.1 hK.2.2.2.2.2.2.2.2.1 Z  m10 ) rfl (ci := 7) rfl (by decide) kc_292 q_1306 q_1307 q_1308 q_7 q_1309 rfl (by decide +kernel) (by decide) (Nat.le_of_ble_eq_true rfl) (Nat.le_of_ble_eq_true rfl) (Nat.le_of_ble_eq_true rfl) rfl dL_law_398 (fun r14 hr14 hpr14 => ?_)
  refine g_iload hK 6 rfl dL_law_401 ?_
  refine g_icmp_eq hK hpr14 hpr12 (tgt := 408) (by decide) dL_law_403 (fun _ => ?_) (fun _ => ?_)
  · refine g_iload hK 6 rfl dL_law_408 ?_
    refine g_if_ne hK hpr12 (tgt := 425) (by decide) dL_law_410 (fun _ => ?_) (fun _ => ?_)
    · refine g_goto hK (tgt := 2058) (by decide) dL_law_425 ?_
      refine g_lv (lv2 := [(0, .ref bS), (1, .ref (Z.2.2.1 + 1)), (2, .ref (Z.2.2.1 + 292)), (3, .ref (Z.2.2.1 + 339)), (4, .ref (Z.2.2.1 + 340)), (5, .int (zi x5))]) [0, 1, 2, 3, 4, 5] rfl ?_
      exact pL_law_2058 hcx k28 hk28 x5 m10 hx5
    · refine g_aload_n hK 3 rfl rfl dL_law_413 ?_
      refine g_iconst hK dL_law_414 zki0 ?_
      refine g_lald hK kc_339 dL_law_415 (fun _ hl16 => ?_)
      refine g_iload hK 7 rfl dL_law_416 ?_
      refine g_i2l hK dL_law_418 hpr13 ?_
      refine g_lcmp hK dL_law_419 hl16 (zr_64 hpr13) (fun v16 hv16 => ?_)
      refine g_if_eq hK hv16 (tgt := 425) (by decide) dL_law_420 (fun _ => ?_) (fun _ => ?_)
      · refine g_goto hK (tgt := 2058) (by decide) dL_law_425 ?_
        refine g_lv (lv2 := [(0, .ref bS), (1, .ref (Z.2.2.1 + 1)), (2, .ref (Z.2.2.1 + 292)), (3, .ref (Z.2.2.1 + 339)), (4, .ref (Z.2.2.1 + 340)), (5, .int (zi x5))]) [0, 1, 2, 3, 4, 5] rfl ?_
        exact pL_law_2058 hcx k28 hk28 x5 m10 hx5
      · refine g_iconst hK dL_law_423 zki0 ?_
        exact hR0 dL_law_424
  · refine g_iconst hK dL_law_406 zki0 ?_
    exact hR0 dL_law_407
set_option maxRecDepth 20000 in
set_option maxHeartbeats 2000000 in
theorem pL_law_756 {K : zK} {Z : zZ} {F : Bool × zM → State → Prop} {bS : Nat} {cb sb : Nat} {L : Nat} {xs : Nat → Int32} (hcx : zOk K Z bL_law R_law 9 (some .boolean) 2048 84000 601024 7293034 ∧ zSX K Z bS L xs ∧ zNc K.2.2.2.2.1 ∧ (∀ {cb sb pc : Nat} {lv : List (Nat × Value)} {μ : zM}, decode bL_law pc = .ok (.ireturn, 1) → zG K Z (zΩ Z) F cb sb pc lv [.int (zi 1)] μ (some (true, μ))) ∧ ∀ {cb sb pc : Nat} {lv : List (Nat × Value)} {μ : zM}, decode bL_law pc = .ok (.ireturn, 1) → zG K Z (zΩ Z) F cb sb pc lv [.int (zi 0)] μ (some (false, μ))) (k28 : Int → zM → Option (Bool × zM)) (hk28 : ∀ (x5 : Int) (μ : zM) (hx5 : zr x5), zG K Z (zΩ Z) F cb sb 28 [(0, .ref bS), (1, .ref (Z.2.2.1 + 1)), (2, .ref (Z.2.2.1 + 292)), (3, .ref (Z.2.2.1 + 339)), (4, .ref (Z.2.2.1 + 340)), (5, .int (zi x5))] [] μ (k28 x5 μ)) (x5 : Int) (μ : zM) (hx5 : zr x5) : zG K Z (zΩ Z) F (cb + 1) (sb + 6) 756 [(0, .ref bS), (1, .ref (Z.2.2.1 + 1)), (2, .ref (Z.2.2.1 + 292)), (3, .ref (Z.2.2.1 + 339)), (4, .ref (Z.2.2.1 + 340)), (5, .int (zi x5))] [] μ (fL_law_756 L xs k28 x5 μ) := by
  obtain ⟨hK, hX, hNc, hR1, hR0⟩ := id hcx
  unfold fL_law_756
  refine g_aload_n hK 1 rfl rfl dL_law_756 ?_
  refine g_aload_n hK 0 rfl rfl dL_law_757 ?_
  refine g_iload hK 5 rfl dL_law_758 ?_
  refine g_iconst hK dL_law_760 zki1 ?_
  refine g_iadd hK dL_law_761 (fun v40 hv40 => ?_)
  refine g_sld hK hX dL_law_762 (fun _ hl40 => ?_)
  refine g_aload_n hK 3 rfl rfl dL_law_763 ?_
  refine g_callSW hK hNc (rm := rmL_account) (cb := cb + 0) (sb := sb + 0) (As := [.ref (Z.2.2.1 + 1), .int (zi ((xs (zx v40)).toInt)), .ref (Z.2.2.1 + 339)]) (n := 3) (cL_account K.2.1 hK.2.2.2.2.2.2.2.2.1 Z ((xs (zx v40)).toInt) μ hl40) q_887 q_888 q_0 q_889 rfl (by decide +kernel) (by decide) (Nat.le_of_ble_eq_true rfl) (Nat.le_of_ble_eq_true rfl) (Nat.le_of_ble_eq_true rfl) rfl dL_law_764 (fun r30 m21 hr30 hpr30 => ?_)
  refine g_istore hK (lv2 := [(0, .ref bS), (1, .ref (Z.2.2.1 + 1)), (2, .ref (Z.2.2.1 + 292)), (3, .ref (Z.2.2.1 + 339)), (4, .ref (Z.2.2.1 + 340)), (5, .int (zi x5)), (6, .int (zi r30))]) [1, 2, 3, 4, 5, 6, 0] rfl (by decide) dL_law_767 ?_
  refine g_aload_n hK 2 rfl rfl dL_law_769 ?_
  refine g_aload_n hK 0 rfl rfl dL_law_770 ?_
  refine g_iload hK 5 rfl dL_law_771 ?_
  refine g_iconst hK dL_law_773 zki1 ?_
  refine g_iadd hK dL_law_774 (fun v41 hv41 => ?_)
  refine g_sld hK hX dL_law_775 (fun _ hl41 => ?_)
  refine g_callVcl hK (mk := mkI) (rm := rm7_account) (cb := cb + 0) (sb := sb + 0) (As := [.int (zi ((xs (zx v41)).toInt))]) (b := 292) (n := 1) (c7_account K.2.1 hK.2.2.2.2.2.2.2.2.1 Z ((xs (zx v41)).toInt) m21 hl41) rfl (ci := 7) rfl (by decide) kc_292 q_1510 q_1511 q_1512 q_7 q_1513 rfl (by decide +kernel) (by decide) (Nat.le_of_ble_eq_true rfl) (Nat.le_of_ble_eq_true rfl) (Nat.le_of_ble_eq_true rfl) rfl dL_law_776 (fun r31 m22 hr31 hpr31 => ?_)
  refine g_istore hK (lv2 := [(0, .ref bS), (1, .ref (Z.2.2.1 + 1)), (2, .ref (Z.2.2.1 + 292)), (3, .ref (Z.2.2.1 + 339)), (4, .ref (Z.2.2.1 + 340)), (5, .int (zi x5)), (6, .int (zi r30)), (7, .int (zi r31))]) [1, 2, 3, 4, 5, 6, 7, 0] rfl (by decide) dL_law_779 ?_
  refine g_aload_n hK 2 rfl rfl dL_law_781 ?_
  refine g_callVco hK (mk := mkI) (rm := rm7_thrown) (cb := cb + 0) (sb := sb + 0) (As := []) (b := 292) (n := 0) (c7_thrown K.2.1 hK.2.2.2.2.2.2.2.2.1 Z  m22 ) rfl (ci := 7) rfl (by decide) kc_292 q_1306 q_1307 q_1308 q_7 q_1309 rfl (by decide +kernel) (by decide) (Nat.le_of_ble_eq_true rfl) (Nat.le_of_ble_eq_true rfl) (Nat.le_of_ble_eq_true rfl) rfl dL_law_782 (fun r32 hr32 hpr32 => ?_)
  refine g_iload hK 6 rfl dL_law_785 ?_
  refine g_icmp_eq hK hpr32 hpr30 (tgt := 792) (by decide) dL_law_787 (fun _ => ?_) (fun _ => ?_)
  · refine g_iload hK 6 rfl dL_law_792 ?_
    refine g_if_ne hK hpr30 (tgt := 809) (by decide) dL_law_794 (fun _ => ?_) (fun _ => ?_)
    · refine g_goto hK (tgt := 2058) (by decide) dL_law_809 ?_
      refine g_lv (lv2 := [(0, .ref bS), (1, .ref (Z.2.2.1 + 1)), (2, .ref (Z.2.2.1 + 292)), (3, .ref (Z.2.2.1 + 339)), (4, .ref (Z.2.2.1 + 340)), (5, .int (zi x5))]) [0, 1, 2, 3, 4, 5] rfl ?_
      exact pL_law_2058 hcx k28 hk28 x5 m22 hx5
    · refine g_aload_n hK 3 rfl rfl dL_law_797 ?_
      refine g_iconst hK dL_law_798 zki0 ?_
      refine g_lald hK kc_339 dL_law_799 (fun _ hl42 => ?_)
      refine g_iload hK 7 rfl dL_law_800 ?_
      refine g_i2l hK dL_law_802 hpr31 ?_
      refine g_lcmp hK dL_law_803 hl42 (zr_64 hpr31) (fun v42 hv42 => ?_)
      refine g_if_eq hK hv42 (tgt := 809) (by decide) dL_law_804 (fun _ => ?_) (fun _ => ?_)
      · refine g_goto hK (tgt := 2058) (by decide) dL_law_809 ?_
        refine g_lv (lv2 := [(0, .ref bS), (1, .ref (Z.2.2.1 + 1)), (2, .ref (Z.2.2.1 + 292)), (3, .ref (Z.2.2.1 + 339)), (4, .ref (Z.2.2.1 + 340)), (5, .int (zi x5))]) [0, 1, 2, 3, 4, 5] rfl ?_
        exact pL_law_2058 hcx k28 hk28 x5 m22 hx5
      · refine g_iconst hK dL_law_807 zki0 ?_
        exact hR0 dL_law_808
  · refine g_iconst hK dL_law_790 zki0 ?_
    exact hR0 dL_law_791
set_option maxRecDepth 20000 in
set_option maxHeartbeats 2000000 in
theorem pL_law_632 {K : zK} {Z : zZ} {F : Bool × zM → State → Prop} {bS : Nat} {cb sb : Nat} {L : Nat} {xs : Nat → Int32} (hcx : zOk K Z bL_law R_law 9 (some .boolean) 2048 84000 601024 7293034 ∧ zSX K Z bS L xs ∧ zNc K.2.2.2.2.1 ∧ (∀ {cb sb pc : Nat} {lv : List (Nat × Value)} {μ : zM}, decode bL_law pc = .ok (.ireturn, 1) → zG K Z (zΩ Z) F cb sb pc lv [.int (zi 1)] μ (some (true, μ))) ∧ ∀ {cb sb pc : Nat} {lv : List (Nat × Value)} {μ : zM}, decode bL_law pc = .ok (.ireturn, 1) → zG K Z (zΩ Z) F cb sb pc lv [.int (zi 0)] μ (some (false, μ))) (k28 : Int → zM → Option (Bool × zM)) (hk28 : ∀ (x5 : Int) (μ : zM) (hx5 : zr x5), zG K Z (zΩ Z) F cb sb 28 [(0, .ref bS), (1, .ref (Z.2.2.1 + 1)), (2, .ref (Z.2.2.1 + 292)), (3, .ref (Z.2.2.1 + 339)), (4, .ref (Z.2.2.1 + 340)), (5, .int (zi x5))] [] μ (k28 x5 μ)) (x5 : Int) (μ : zM) (hx5 : zr x5) : zG K Z (zΩ Z) F (cb + 1) (sb + 6) 632 [(0, .ref bS), (1, .ref (Z.2.2.1 + 1)), (2, .ref (Z.2.2.1 + 292)), (3, .ref (Z.2.2.1 + 339)), (4, .ref (Z.2.2.1 + 340)), (5, .int (zi x5))] [] μ (fL_law_632 L xs k28 x5 μ) := by
  obtain ⟨hK, hX, hNc, hR1, hR0⟩ := id hcx
  unfold fL_law_632
  refine g_aload_n hK 1 rfl rfl dL_law_632 ?_
  refine g_aload_n hK 0 rfl rfl dL_law_633 ?_
  refine g_iload hK 5 rfl dL_law_634 ?_
  refine g_iconst hK dL_law_636 zki1 ?_
  refine g_iadd hK dL_law_637 (fun v32 hv32 => ?_)
  refine g_sld hK hX dL_law_638 (fun _ hl32 => ?_)
  refine g_aload_n hK 3 rfl rfl dL_law_639 ?_
  refine g_callSW hK hNc (rm := rmL_document) (cb := cb + 0) (sb := sb + 0) (As := [.ref (Z.2.2.1 + 1), .int (zi ((xs (zx v32)).toInt)), .ref (Z.2.2.1 + 339)]) (n := 3) (cL_document K.2.1 hK.2.2.2.2.2.2.2.2.1 Z ((xs (zx v32)).toInt) μ hl32) q_867 q_868 q_0 q_869 rfl (by decide +kernel) (by decide) (Nat.le_of_ble_eq_true rfl) (Nat.le_of_ble_eq_true rfl) (Nat.le_of_ble_eq_true rfl) rfl dL_law_640 (fun r24 m17 hr24 hpr24 => ?_)
  refine g_istore hK (lv2 := [(0, .ref bS), (1, .ref (Z.2.2.1 + 1)), (2, .ref (Z.2.2.1 + 292)), (3, .ref (Z.2.2.1 + 339)), (4, .ref (Z.2.2.1 + 340)), (5, .int (zi x5)), (6, .int (zi r24))]) [1, 2, 3, 4, 5, 6, 0] rfl (by decide) dL_law_643 ?_
  refine g_aload_n hK 2 rfl rfl dL_law_645 ?_
  refine g_aload_n hK 0 rfl rfl dL_law_646 ?_
  refine g_iload hK 5 rfl dL_law_647 ?_
  refine g_iconst hK dL_law_649 zki1 ?_
  refine g_iadd hK dL_law_650 (fun v33 hv33 => ?_)
  refine g_sld hK hX dL_law_651 (fun _ hl33 => ?_)
  refine g_callVcl hK (mk := mkI) (rm := rm7_document) (cb := cb + 0) (sb := sb + 0) (As := [.int (zi ((xs (zx v33)).toInt))]) (b := 292) (n := 1) (c7_document K.2.1 hK.2.2.2.2.2.2.2.2.1 Z ((xs (zx v33)).toInt) m17 hl33) rfl (ci := 7) rfl (by decide) kc_292 q_1459 q_1460 q_1461 q_7 q_1462 rfl (by decide +kernel) (by decide) (Nat.le_of_ble_eq_true rfl) (Nat.le_of_ble_eq_true rfl) (Nat.le_of_ble_eq_true rfl) rfl dL_law_652 (fun r25 m18 hr25 hpr25 => ?_)
  refine g_istore hK (lv2 := [(0, .ref bS), (1, .ref (Z.2.2.1 + 1)), (2, .ref (Z.2.2.1 + 292)), (3, .ref (Z.2.2.1 + 339)), (4, .ref (Z.2.2.1 + 340)), (5, .int (zi x5)), (6, .int (zi r24)), (7, .int (zi r25))]) [1, 2, 3, 4, 5, 6, 7, 0] rfl (by decide) dL_law_655 ?_
  refine g_aload_n hK 2 rfl rfl dL_law_657 ?_
  refine g_callVco hK (mk := mkI) (rm := rm7_thrown) (cb := cb + 0) (sb := sb + 0) (As := []) (b := 292) (n := 0) (c7_thrown K.2.1 hK.2.2.2.2.2.2.2.2.1 Z  m18 ) rfl (ci := 7) rfl (by decide) kc_292 q_1306 q_1307 q_1308 q_7 q_1309 rfl (by decide +kernel) (by decide) (Nat.le_of_ble_eq_true rfl) (Nat.le_of_ble_eq_true rfl) (Nat.le_of_ble_eq_true rfl) rfl dL_law_658 (fun r26 hr26 hpr26 => ?_)
  refine g_iload hK 6 rfl dL_law_661 ?_
  refine g_icmp_eq hK hpr26 hpr24 (tgt := 668) (by decide) dL_law_663 (fun _ => ?_) (fun _ => ?_)
  · refine g_iload hK 6 rfl dL_law_668 ?_
    refine g_if_ne hK hpr24 (tgt := 685) (by decide) dL_law_670 (fun _ => ?_) (fun _ => ?_)
    · refine g_goto hK (tgt := 2058) (by decide) dL_law_685 ?_
      refine g_lv (lv2 := [(0, .ref bS), (1, .ref (Z.2.2.1 + 1)), (2, .ref (Z.2.2.1 + 292)), (3, .ref (Z.2.2.1 + 339)), (4, .ref (Z.2.2.1 + 340)), (5, .int (zi x5))]) [0, 1, 2, 3, 4, 5] rfl ?_
      exact pL_law_2058 hcx k28 hk28 x5 m18 hx5
    · refine g_aload_n hK 3 rfl rfl dL_law_673 ?_
      refine g_iconst hK dL_law_674 zki0 ?_
      refine g_lald hK kc_339 dL_law_675 (fun _ hl34 => ?_)
      refine g_iload hK 7 rfl dL_law_676 ?_
      refine g_i2l hK dL_law_678 hpr25 ?_
      refine g_lcmp hK dL_law_679 hl34 (zr_64 hpr25) (fun v34 hv34 => ?_)
      refine g_if_eq hK hv34 (tgt := 685) (by decide) dL_law_680 (fun _ => ?_) (fun _ => ?_)
      · refine g_goto hK (tgt := 2058) (by decide) dL_law_685 ?_
        refine g_lv (lv2 := [(0, .ref bS), (1, .ref (Z.2.2.1 + 1)), (2, .ref (Z.2.2.1 + 292)), (3, .ref (Z.2.2.1 + 339)), (4, .ref (Z.2.2.1 + 340)), (5, .int (zi x5))]) [0, 1, 2, 3, 4, 5] rfl ?_
        exact pL_law_2058 hcx k28 hk28 x5 m18 hx5
      · refine g_iconst hK dL_law_683 zki0 ?_
        exact hR0 dL_law_684
  · refine g_iconst hK dL_law_666 zki0 ?_
    exact hR0 dL_law_667
set_option maxRecDepth 20000 in
set_option maxHeartbeats 2000000 in
theorem pL_law_28 {K : zK} {Z : zZ} {F : Bool × zM → State → Prop} {bS : Nat} {cb sb : Nat} {L : Nat} {xs : Nat → Int32} (hcx : zOk K Z bL_law R_law 9 (some .boolean) 2048 84000 601024 7293034 ∧ zSX K Z bS L xs ∧ zNc K.2.2.2.2.1 ∧ (∀ {cb sb pc : Nat} {lv : List (Nat × Value)} {μ : zM}, decode bL_law pc = .ok (.ireturn, 1) → zG K Z (zΩ Z) F cb sb pc lv [.int (zi 1)] μ (some (true, μ))) ∧ ∀ {cb sb pc : Nat} {lv : List (Nat × Value)} {μ : zM}, decode bL_law pc = .ok (.ireturn, 1) → zG K Z (zΩ Z) F cb sb pc lv [.int (zi 0)] μ (some (false, μ))) (k28 : Int → zM → Option (Bool × zM)) (hk28 : ∀ (x5 : Int) (μ : zM) (hx5 : zr x5), zG K Z (zΩ Z) F cb sb 28 [(0, .ref bS), (1, .ref (Z.2.2.1 + 1)), (2, .ref (Z.2.2.1 + 292)), (3, .ref (Z.2.2.1 + 339)), (4, .ref (Z.2.2.1 + 340)), (5, .int (zi x5))] [] μ (k28 x5 μ)) (x5 : Int) (μ : zM) (hx5 : zr x5) : zG K Z (zΩ Z) F (cb + 6) (sb + 36) 28 [(0, .ref bS), (1, .ref (Z.2.2.1 + 1)), (2, .ref (Z.2.2.1 + 292)), (3, .ref (Z.2.2.1 + 339)), (4, .ref (Z.2.2.1 + 340)), (5, .int (zi x5))] [] μ (fL_law_28 L xs k28 x5 μ) := by
  obtain ⟨hK, hX, hNc, hR1, hR0⟩ := id hcx
  unfold fL_law_28
  refine g_iload hK 5 rfl dL_law_28 ?_
  refine g_aload_n hK 0 rfl rfl dL_law_30 ?_
  refine g_sxlen hK hX dL_law_31 (fun hl1 => ?_)
  refine g_bipush hK dL_law_32 zkb6 ?_
  refine g_isub hK dL_law_34 (fun v1 hv1 => ?_)
  refine g_icmp_gt hK hx5 hv1 (tgt := 2064) (by decide) dL_law_35 (fun _ => ?_) (fun _ => ?_)
  · refine g_iconst hK dL_law_2064 zki1 ?_
    exact hR1 dL_law_2065
  · refine g_aload_n hK 0 rfl rfl dL_law_38 ?_
    refine g_iload hK 5 rfl dL_law_39 ?_
    refine g_sld hK hX dL_law_41 (fun _ hl2 => ?_)
    refine g_bipush hK dL_law_42 zkb63 ?_
    refine g_iand hK dL_law_44 (fun v2 hv2 => ?_)
    refine g_case (fun hs0 => ?_) (fun hs0 => ?_)
    · refine g_tabIn hK (v := 0) (tgt := 216) hv2 hs0 (by decide) (by decide) rfl (by decide) dL_law_45 ?_
      refine g_bud (cb2 := cb + 1) (sb2 := sb + 6) (by omega) (by omega) ?_
      exact pL_law_216 hcx k28 hk28 x5 μ hx5
    refine g_case (fun hs1 => ?_) (fun hs1 => ?_)
    · refine g_tabIn hK (v := 1) (tgt := 320) hv2 hs1 (by decide) (by decide) rfl (by decide) dL_law_45 ?_
      refine g_bud (cb2 := cb + 0) (sb2 := sb + 0) (by omega) (by omega) ?_
      exact pL_law_320 hcx k28 hk28 x5 μ hx5
    refine g_case (fun hs2 => ?_) (fun hs2 => ?_)
    · refine g_tabIn hK (v := 2) (tgt := 333) hv2 hs2 (by decide) (by decide) rfl (by decide) dL_law_45 ?_
      refine g_bud (cb2 := cb + 0) (sb2 := sb + 0) (by omega) (by omega) ?_
      exact pL_law_333 hcx k28 hk28 x5 μ hx5
    refine g_case (fun hs3 => ?_) (fun hs3 => ?_)
    · refine g_tabIn hK (v := 3) (tgt := 346) hv2 hs3 (by decide) (by decide) rfl (by decide) dL_law_45 ?_
      refine g_bud (cb2 := cb + 0) (sb2 := sb + 0) (by omega) (by omega) ?_
      exact pL_law_346 hcx k28 hk28 x5 μ hx5
    refine g_case (fun hs4 => ?_) (fun hs4 => ?_)
    · refine g_tabIn hK (v := 4) (tgt := 359) hv2 hs4 (by decide) (by decide) rfl (by decide) dL_law_45 ?_
      refine g_bud (cb2 := cb + 0) (sb2 := sb + 0) (by omega) (by omega) ?_
      exact pL_law_359 hcx k28 hk28 x5 μ hx5
    refine g_case (fun hs5 => ?_) (fun hs5 => ?_)
    · refine g_tabIn hK (v := 5) (tgt := 372) hv2 hs5 (by decide) (by decide) rfl (by decide) dL_law_45 ?_
      refine g_bud (cb2 := cb + 1) (sb2 := sb + 6) (by omega) (by omega) ?_
      exact pL_law_372 hcx k28 hk28 x5 μ hx5
    refine g_case (fun hs6 => ?_) (fun hs6 => ?_)
    · refine g_tabIn hK (v := 6) (tgt := 428) hv2 hs6 (by decide) (by decide) rfl (by decide) dL_law_45 ?_
      refine g_bud (cb2 := cb + 2) (sb2 := sb + 12) (by omega) (by omega) ?_
      exact pL_law_428 hcx k28 hk28 x5 μ hx5
    refine g_case (fun hs7 => ?_) (fun hs7 => ?_)
    · refine g_tabIn hK (v := 7) (tgt := 496) hv2 hs7 (by decide) (by decide) rfl (by decide) dL_law_45 ?_
      refine g_bud (cb2 := cb + 1) (sb2 := sb + 6) (by omega) (by omega) ?_
      exact pL_law_496 hcx k28 hk28 x5 μ hx5
    refine g_case (fun hs8 => ?_) (fun hs8 => ?_)
    · refine g_tabIn hK (v := 8) (tgt := 564) hv2 hs8 (by decide) (by decide) rfl (by decide) dL_law_45 ?_
      refine g_bud (cb2 := cb + 2) (sb2 := sb + 12) (by omega) (by omega) ?_
      exact pL_law_564 hcx k28 hk28 x5 μ hx5
    refine g_case (fun hs9 => ?_) (fun hs9 => ?_)
    · refine g_tabIn hK (v := 9) (tgt := 632) hv2 hs9 (by decide) (by decide) rfl (by decide) dL_law_45 ?_
      refine g_bud (cb2 := cb + 1) (sb2 := sb + 6) (by omega) (by omega) ?_
      exact pL_law_632 hcx k28 hk28 x5 μ hx5
    refine g_case (fun hs10 => ?_) (fun hs10 => ?_)
    · refine g_tabIn hK (v := 10) (tgt := 688) hv2 hs10 (by decide) (by decide) rfl (by decide) dL_law_45 ?_
      refine g_bud (cb2 := cb + 1) (sb2 := sb + 6) (by omega) (by omega) ?_
      exact pL_law_688 hcx k28 hk28 x5 μ hx5
    refine g_case (fun hs11 => ?_) (fun hs11 => ?_)
    · refine g_tabIn hK (v := 11) (tgt := 756) hv2 hs11 (by decide) (by decide) rfl (by decide) dL_law_45 ?_
      refine g_bud (cb2 := cb + 1) (sb2 := sb + 6) (by omega) (by omega) ?_
      exact pL_law_756 hcx k28 hk28 x5 μ hx5
    refine g_case (fun hs12 => ?_) (fun hs12 => ?_)
    · refine g_tabIn hK (v := 12) (tgt := 812) hv2 hs12 (by decide) (by decide) rfl (by decide) dL_law_45 ?_
      refine g_bud (cb2 := cb + 3) (sb2 := sb + 18) (by omega) (by omega) ?_
      exact pL_law_812 hcx k28 hk28 x5 μ hx5
    refine g_case (fun hs13 => ?_) (fun hs13 => ?_)
    · refine g_tabIn hK (v := 13) (tgt := 880) hv2 hs13 (by decide) (by decide) rfl (by decide) dL_law_45 ?_
      refine g_bud (cb2 := cb + 2) (sb2 := sb + 12) (by omega) (by omega) ?_
      exact pL_law_880 hcx k28 hk28 x5 μ hx5
    refine g_case (fun hs14 => ?_) (fun hs14 => ?_)
    · refine g_tabIn hK (v := 14) (tgt := 948) hv2 hs14 (by decide) (by decide) rfl (by decide) dL_law_45 ?_
      refine g_bud (cb2 := cb + 2) (sb2 := sb + 12) (by omega) (by omega) ?_
      exact pL_law_948 hcx k28 hk28 x5 μ hx5
    refine g_case (fun hs15 => ?_) (fun hs15 => ?_)
    · refine g_tabIn hK (v := 15) (tgt := 1016) hv2 hs15 (by decide) (by decide) rfl (by decide) dL_law_45 ?_
      refine g_bud (cb2 := cb + 1) (sb2 := sb + 6) (by omega) (by omega) ?_
      exact pL_law_1016 hcx k28 hk28 x5 μ hx5
    refine g_case (fun hs16 => ?_) (fun hs16 => ?_)
    · refine g_tabIn hK (v := 16) (tgt := 1072) hv2 hs16 (by decide) (by decide) rfl (by decide) dL_law_45 ?_
      refine g_bud (cb2 := cb + 1) (sb2 := sb + 6) (by omega) (by omega) ?_
      exact pL_law_1072 hcx k28 hk28 x5 μ hx5
    refine g_case (fun hs17 => ?_) (fun hs17 => ?_)
    · refine g_tabIn hK (v := 17) (tgt := 1128) hv2 hs17 (by decide) (by decide) rfl (by decide) dL_law_45 ?_
      refine g_bud (cb2 := cb + 2) (sb2 := sb + 12) (by omega) (by omega) ?_
      exact pL_law_1128 hcx k28 hk28 x5 μ hx5
    refine g_case (fun hs18 => ?_) (fun hs18 => ?_)
    · refine g_tabIn hK (v := 18) (tgt := 1184) hv2 hs18 (by decide) (by decide) rfl (by decide) dL_law_45 ?_
      refine g_bud (cb2 := cb + 1) (sb2 := sb + 6) (by omega) (by omega) ?_
      exact pL_law_1184 hcx k28 hk28 x5 μ hx5
    refine g_case (fun hs19 => ?_) (fun hs19 => ?_)
    · refine g_tabIn hK (v := 19) (tgt := 1228) hv2 hs19 (by decide) (by decide) rfl (by decide) dL_law_45 ?_
      refine g_bud (cb2 := cb + 1) (sb2 := sb + 6) (by omega) (by omega) ?_
      exact pL_law_1228 hcx k28 hk28 x5 μ hx5
    refine g_case (fun hs20 => ?_) (fun hs20 => ?_)
    · refine g_tabIn hK (v := 20) (tgt := 1272) hv2 hs20 (by decide) (by decide) rfl (by decide) dL_law_45 ?_
      refine g_bud (cb2 := cb + 1) (sb2 := sb + 6) (by omega) (by omega) ?_
      exact pL_law_1272 hcx k28 hk28 x5 μ hx5
    refine g_case (fun hs21 => ?_) (fun hs21 => ?_)
    · refine g_tabIn hK (v := 21) (tgt := 1316) hv2 hs21 (by decide) (by decide) rfl (by decide) dL_law_45 ?_
      refine g_bud (cb2 := cb + 1) (sb2 := sb + 6) (by omega) (by omega) ?_
      exact pL_law_1316 hcx k28 hk28 x5 μ hx5
    refine g_case (fun hs22 => ?_) (fun hs22 => ?_)
    · refine g_tabIn hK (v := 22) (tgt := 1382) hv2 hs22 (by decide) (by decide) rfl (by decide) dL_law_45 ?_
      refine g_bud (cb2 := cb + 1) (sb2 := sb + 6) (by omega) (by omega) ?_
      exact pL_law_1382 hcx k28 hk28 x5 μ hx5
    refine g_case (fun hs23 => ?_) (fun hs23 => ?_)
    · refine g_tabIn hK (v := 23) (tgt := 1447) hv2 hs23 (by decide) (by decide) rfl (by decide) dL_law_45 ?_
      refine g_bud (cb2 := cb + 2) (sb2 := sb + 12) (by omega) (by omega) ?_
      exact pL_law_1447 hcx k28 hk28 x5 μ hx5
    refine g_case (fun hs24 => ?_) (fun hs24 => ?_)
    · refine g_tabIn hK (v := 24) (tgt := 1503) hv2 hs24 (by decide) (by decide) rfl (by decide) dL_law_45 ?_
      refine g_bud (cb2 := cb + 2) (sb2 := sb + 12) (by omega) (by omega) ?_
      exact pL_law_1503 hcx k28 hk28 x5 μ hx5
    refine g_case (fun hs25 => ?_) (fun hs25 => ?_)
    · refine g_tabIn hK (v := 25) (tgt := 1559) hv2 hs25 (by decide) (by decide) rfl (by decide) dL_law_45 ?_
      refine g_bud (cb2 := cb + 1) (sb2 := sb + 6) (by omega) (by omega) ?_
      exact pL_law_1559 hcx k28 hk28 x5 μ hx5
    refine g_case (fun hs26 => ?_) (fun hs26 => ?_)
    · refine g_tabIn hK (v := 26) (tgt := 1615) hv2 hs26 (by decide) (by decide) rfl (by decide) dL_law_45 ?_
      refine g_bud (cb2 := cb + 1) (sb2 := sb + 6) (by omega) (by omega) ?_
      exact pL_law_1615 hcx k28 hk28 x5 μ hx5
    refine g_case (fun hs27 => ?_) (fun hs27 => ?_)
    · refine g_tabIn hK (v := 27) (tgt := 1671) hv2 hs27 (by decide) (by decide) rfl (by decide) dL_law_45 ?_
      refine g_bud (cb2 := cb + 2) (sb2 := sb + 12) (by omega) (by omega) ?_
      exact pL_law_1671 hcx k28 hk28 x5 μ hx5
    refine g_case (fun hs28 => ?_) (fun hs28 => ?_)
    · refine g_tabIn hK (v := 28) (tgt := 1727) hv2 hs28 (by decide) (by decide) rfl (by decide) dL_law_45 ?_
      refine g_bud (cb2 := cb + 0) (sb2 := sb + 0) (by omega) (by omega) ?_
      exact pL_law_1727 hcx k28 hk28 x5 μ hx5
    refine g_case (fun hs29 => ?_) (fun hs29 => ?_)
    · refine g_tabIn hK (v := 29) (tgt := 1740) hv2 hs29 (by decide) (by decide) rfl (by decide) dL_law_45 ?_
      refine g_bud (cb2 := cb + 0) (sb2 := sb + 0) (by omega) (by omega) ?_
      exact pL_law_1740 hcx k28 hk28 x5 μ hx5
    refine g_case (fun hs30 => ?_) (fun hs30 => ?_)
    · refine g_tabIn hK (v := 30) (tgt := 1753) hv2 hs30 (by decide) (by decide) rfl (by decide) dL_law_45 ?_
      refine g_bud (cb2 := cb + 0) (sb2 := sb + 0) (by omega) (by omega) ?_
      exact pL_law_1753 hcx k28 hk28 x5 μ hx5
    refine g_case (fun hs31 => ?_) (fun hs31 => ?_)
    · refine g_tabIn hK (v := 31) (tgt := 1766) hv2 hs31 (by decide) (by decide) rfl (by decide) dL_law_45 ?_
      refine g_bud (cb2 := cb + 0) (sb2 := sb + 0) (by omega) (by omega) ?_
      exact pL_law_1766 hcx k28 hk28 x5 μ hx5
    refine g_case (fun hs32 => ?_) (fun hs32 => ?_)
    · refine g_tabIn hK (v := 32) (tgt := 1779) hv2 hs32 (by decide) (by decide) rfl (by decide) dL_law_45 ?_
      refine g_bud (cb2 := cb + 1) (sb2 := sb + 6) (by omega) (by omega) ?_
      exact pL_law_1779 hcx k28 hk28 x5 μ hx5
    refine g_case (fun hs33 => ?_) (fun hs33 => ?_)
    · refine g_tabIn hK (v := 33) (tgt := 1835) hv2 hs33 (by decide) (by decide) rfl (by decide) dL_law_45 ?_
      refine g_bud (cb2 := cb + 0) (sb2 := sb + 0) (by omega) (by omega) ?_
      exact pL_law_1835 hcx k28 hk28 x5 μ hx5
    refine g_case (fun hs34 => ?_) (fun hs34 => ?_)
    · refine g_tabIn hK (v := 34) (tgt := 1848) hv2 hs34 (by decide) (by decide) rfl (by decide) dL_law_45 ?_
      refine g_bud (cb2 := cb + 0) (sb2 := sb + 0) (by omega) (by omega) ?_
      exact pL_law_1848 hcx k28 hk28 x5 μ hx5
    refine g_case (fun hs35 => ?_) (fun hs35 => ?_)
    · refine g_tabIn hK (v := 35) (tgt := 1861) hv2 hs35 (by decide) (by decide) rfl (by decide) dL_law_45 ?_
      refine g_bud (cb2 := cb + 0) (sb2 := sb + 0) (by omega) (by omega) ?_
      exact pL_law_1861 hcx k28 hk28 x5 μ hx5
    refine g_case (fun hs36 => ?_) (fun hs36 => ?_)
    · refine g_tabIn hK (v := 36) (tgt := 1902) hv2 hs36 (by decide) (by decide) rfl (by decide) dL_law_45 ?_
      refine g_bud (cb2 := cb + 1) (sb2 := sb + 6) (by omega) (by omega) ?_
      exact pL_law_1902 hcx k28 hk28 x5 μ hx5
    refine g_case (fun hs37 => ?_) (fun hs37 => ?_)
    · refine g_tabIn hK (v := 37) (tgt := 1946) hv2 hs37 (by decide) (by decide) rfl (by decide) dL_law_45 ?_
      refine g_bud (cb2 := cb + 1) (sb2 := sb + 6) (by omega) (by omega) ?_
      exact pL_law_1946 hcx k28 hk28 x5 μ hx5
    refine g_case (fun hs38 => ?_) (fun hs38 => ?_)
    · refine g_tabIn hK (v := 38) (tgt := 2002) hv2 hs38 (by decide) (by decide) rfl (by decide) dL_law_45 ?_
      refine g_bud (cb2 := cb + 2) (sb2 := sb + 12) (by omega) (by omega) ?_
      exact pL_law_2002 hcx k28 hk28 x5 μ hx5
    refine g_tabOut hK (tgt := 2058) hv2 (by omega) (by decide) dL_law_45 ?_
    refine g_bud (cb2 := cb + 0) (sb2 := sb + 0) (by omega) (by omega) ?_
    exact pL_law_2058 hcx k28 hk28 x5 μ hx5
theorem lL_law_28 {K : zK} {Z : zZ} {F : Bool × zM → State → Prop} {bS : Nat} {L : Nat} {xs : Nat → Int32} (hcx : zOk K Z bL_law R_law 9 (some .boolean) 2048 84000 601024 7293034 ∧ zSX K Z bS L xs ∧ zNc K.2.2.2.2.1 ∧ (∀ {cb sb pc : Nat} {lv : List (Nat × Value)} {μ : zM}, decode bL_law pc = .ok (.ireturn, 1) → zG K Z (zΩ Z) F cb sb pc lv [.int (zi 1)] μ (some (true, μ))) ∧ ∀ {cb sb pc : Nat} {lv : List (Nat × Value)} {μ : zM}, decode bL_law pc = .ok (.ireturn, 1) → zG K Z (zΩ Z) F cb sb pc lv [.int (zi 0)] μ (some (false, μ))) : ∀ (i9 : Nat) (x5 : Int) (μ : zM) (hx5 : zr x5), zG K Z (zΩ Z) F (6 * i9) (36 * i9) 28 [(0, .ref bS), (1, .ref (Z.2.2.1 + 1)), (2, .ref (Z.2.2.1 + 292)), (3, .ref (Z.2.2.1 + 339)), (4, .ref (Z.2.2.1 + 340)), (5, .int (zi x5))] [] μ (zfx (fL_law_28 L xs) (fun _ _ => none) i9 x5 μ) := by
  intro i9
  induction i9 with
  | zero => intro x5 μ hx5; exact g_none
  | succ i9 ih => intro x5 μ hx5; exact pL_law_28 (cb := 6 * i9) (sb := 36 * i9) hcx (zfx (fL_law_28 L xs) (fun _ _ => none) i9) ih x5 μ hx5
