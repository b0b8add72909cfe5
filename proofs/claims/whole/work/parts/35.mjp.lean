set_option maxRecDepth 20000 in
theorem c7_go (l : Launch) (hst : l.stackTraces = false) (Z : zZ) (a1 : Int) (μ : zM) (ha1 : zr a1) : ∀ x, f7_go a1 μ = some x → zCt l Z (zΩ Z) y7_go (zws (.code y7_go b7_go 3 (some .int))) rm7_go [.ref (Z.2.2.1 + 292), .int (zi a1)] μ (ze2 mkI x) := by
  intro x h
  refine zCt.of (enc := (ze2 mkI)) h (by decide) hst (Nat.le_of_ble_eq_true rfl) (fun K hK0 hex hl _ => ?_)
  subst hl
  have hcx : zOk K Z b7_go RX7 3 (some .int) 4 94 0 0 ∧ ∀ x ∈ K.2.2.2.2.2.2.2.2.2.exceptionTable.toList, False := ⟨hK0, hex⟩
  have hK := hcx.1
  show zG K Z (zΩ Z) (zF K Z (zΩ Z) (ze2 mkI)) 0 0 0 [(0, .ref (Z.2.2.1 + 292)), (1, .int (zi a1))] [] μ (f7_go a1 μ)
  unfold f7_go
  refine g_aload_n hK 0 rfl rfl d7_go_0 ?_
  refine g_iconst hK d7_go_1 zki0 ?_
  refine g_putI hK zfin_7 (fa_7_0 kc_292) q_1197 zc0 rfl (tyX7_ok 0 (by decide)) tyX7 tyX7_ok nmX7 d7_go_2 ?_
  refine g_ltM (fun m1 => ?_)
  refine g_aload_n hK 0 rfl rfl d7_go_5 ?_
  refine g_iload_n hK 1 rfl rfl d7_go_6 ?_
  refine g_callSco hK (mk := mkZ) (rm := rm7_isField) (cb := 0) (sb := 0) (As := [.int (zi a1)]) (n := 1) (c7_isField K.2.1 hK.2.2.2.2.2.2.2.2.1 Z a1 m1 ha1) q_1456 q_1457 q_7 q_1458 rfl (by decide +kernel) (by decide) (Nat.le_of_ble_eq_true rfl) (Nat.le_of_ble_eq_true rfl) (Nat.le_of_ble_eq_true rfl) rfl d7_go_7 (fun r1 hr1 hpr1 => ?_)
  refine g_if_ne hK (zb_r r1) (tgt := 17) (by decide) d7_go_10 (fun _ => ?_) (fun _ => ?_)
  · refine g_iconst hK d7_go_17 zki0 ?_
    exact p7_go_18 hcx a1 ha1  0 m1 zc0
  · refine g_iconst hK d7_go_13 zki1 ?_
    refine g_goto hK (tgt := 18) (by decide) d7_go_14 ?_
    exact p7_go_18 hcx a1 ha1  1 m1 zc1
set_option maxRecDepth 20000 in
theorem c7_finish (l : Launch) (hst : l.stackTraces = false) (Z : zZ) (μ : zM) : ∀ x, f7_finish μ = some x → zCt l Z (zΩ Z) y7_finish (zws (.code y7_finish b7_finish 2 (some .int))) rm7_finish [.ref (Z.2.2.1 + 292)] μ (ze2 mkI x) := by
  intro x h
  refine zCt.of (enc := (ze2 mkI)) h (by decide) hst (Nat.le_of_ble_eq_true rfl) (fun K hK0 hex hl _ => ?_)
  subst hl
  have hcx : zOk K Z b7_finish RX7 2 (some .int) 86 2220 0 0 ∧ ∀ x ∈ K.2.2.2.2.2.2.2.2.2.exceptionTable.toList, False := ⟨hK0, hex⟩
  have hK := hcx.1
  show zG K Z (zΩ Z) (zF K Z (zΩ Z) (ze2 mkI)) 0 0 0 [(0, .ref (Z.2.2.1 + 292))] [] μ (f7_finish μ)
  unfold f7_finish
  refine g_aload_n hK 0 rfl rfl d7_finish_0 ?_
  refine g_iconst hK d7_finish_1 zki0 ?_
  refine g_putI hK zfin_7 (fa_7_0 kc_292) q_1197 zc0 rfl (tyX7_ok 0 (by decide)) tyX7 tyX7_ok nmX7 d7_finish_2 ?_
  refine g_ltM (fun m1 => ?_)
  refine g_aload_n hK 0 rfl rfl d7_finish_5 ?_
  refine g_callVcm hK (rm := rm7_begins) (cb := 0) (sb := 0) (As := []) (b := 292) (n := 0) (c7_begins K.2.1 hK.2.2.2.2.2.2.2.2.1 Z  m1 ) rfl (ci := 7) rfl (by decide) kc_292 q_1656 q_1658 qs_7_begins q_7 q_1659 rfl (by decide +kernel) (by decide) (Nat.le_of_ble_eq_true rfl) (Nat.le_of_ble_eq_true rfl) (Nat.le_of_ble_eq_true rfl) rfl d7_finish_6 (fun m2 hm2 => ?_)
  refine g_aload_n hK 0 rfl rfl d7_finish_9 ?_
  refine g_getR hK zfin_7 (fa_7_1 kc_292) q_1198 (r := 293) (by decide +kernel) d7_finish_10 ?_
  refine g_iconst hK d7_finish_13 zki0 ?_
  refine g_iald hK kc_293 d7_finish_14 (fun _ hl1 => ?_)
  refine g_if_ne hK hl1 (tgt := 24) (by decide) d7_finish_15 (fun _ => ?_) (fun _ => ?_)
  · refine g_aload_n hK 0 rfl rfl d7_finish_24 ?_
    refine g_callVcl hK (mk := mkI) (rm := rm7_ends) (cb := 0) (sb := 0) (As := []) (b := 292) (n := 0) (c7_ends K.2.1 hK.2.2.2.2.2.2.2.2.1 Z  m2 ) rfl (ci := 7) rfl (by decide) kc_292 q_1668 q_1670 qs_7_ends q_7 q_1671 rfl (by decide +kernel) (by decide) (Nat.le_of_ble_eq_true rfl) (Nat.le_of_ble_eq_true rfl) (Nat.le_of_ble_eq_true rfl) rfl d7_finish_25 (fun r1 m3 hr1 hpr1 => ?_)
    refine g_istore_n hK (lv2 := [(0, .ref (Z.2.2.1 + 292)), (1, .int (zi r1))]) [1, 0] rfl rfl (by decide) d7_finish_28 ?_
    refine g_aload_n hK 0 rfl rfl d7_finish_29 ?_
    refine g_iload_n hK 1 rfl rfl d7_finish_30 ?_
    refine g_aload_n hK 0 rfl rfl d7_finish_31 ?_
    refine g_getR hK zfin_7 (fa_7_1 kc_292) q_1198 (r := 293) (by decide +kernel) d7_finish_32 ?_
    refine g_iconst hK d7_finish_35 zki0 ?_
    refine g_iald hK kc_293 d7_finish_36 (fun _ hl2 => ?_)
    refine g_callVcl hK (mk := mkI) (rm := rm7_tells) (cb := 0) (sb := 0) (As := [.int (zi r1), .int (zi (zI m3 293 (zx 0)))]) (b := 292) (n := 2) (c7_tells K.2.1 hK.2.2.2.2.2.2.2.2.1 Z r1 (zI m3 293 (zx 0)) m3 hpr1 hl2) rfl (ci := 7) rfl (by decide) kc_292 q_1676 q_1678 qs_7_tells q_7 q_1679 rfl (by decide +kernel) (by decide) (Nat.le_of_ble_eq_true rfl) (Nat.le_of_ble_eq_true rfl) (Nat.le_of_ble_eq_true rfl) rfl d7_finish_37 (fun r2 m4 hr2 hpr2 => ?_)
    exact g_iret hK hpr2 rfl rfl d7_finish_40
  · refine g_aload_n hK 0 rfl rfl d7_finish_18 ?_
    refine g_iconst hK d7_finish_19 zki1 ?_
    refine g_callVcl hK (mk := mkI) (rm := rm7_refused) (cb := 0) (sb := 0) (As := [.int (zi 1)]) (b := 292) (n := 1) (c7_refused K.2.1 hK.2.2.2.2.2.2.2.2.1 Z 1 m2 zc1) rfl (ci := 7) rfl (by decide) kc_292 q_1660 q_1662 qs_7_refused q_7 q_1663 rfl (by decide +kernel) (by decide) (Nat.le_of_ble_eq_true rfl) (Nat.le_of_ble_eq_true rfl) (Nat.le_of_ble_eq_true rfl) rfl d7_finish_20 (fun r3 m5 hr3 hpr3 => ?_)
    exact g_iret hK hpr3 rfl rfl d7_finish_23
set_option maxRecDepth 20000 in
theorem c7_drop (l : Launch) (hst : l.stackTraces = false) (Z : zZ) (μ : zM) : ∀ x, f7_drop μ = some x → zCt l Z (zΩ Z) y7_drop (zws (.code y7_drop b7_drop 1 (some .int))) rm7_drop [.ref (Z.2.2.1 + 292)] μ (ze2 mkI x) := by
  intro x h
  refine zCt.of (enc := (ze2 mkI)) h (by decide) hst (Nat.le_of_ble_eq_true rfl) (fun K hK0 hex hl _ => ?_)
  subst hl
  have hcx : zOk K Z b7_drop RX7 1 (some .int) 2 54 0 0 ∧ ∀ x ∈ K.2.2.2.2.2.2.2.2.2.exceptionTable.toList, False := ⟨hK0, hex⟩
  have hK := hcx.1
  show zG K Z (zΩ Z) (zF K Z (zΩ Z) (ze2 mkI)) 0 0 0 [(0, .ref (Z.2.2.1 + 292))] [] μ (f7_drop μ)
  unfold f7_drop
  refine g_aload_n hK 0 rfl rfl d7_drop_0 ?_
  refine g_iconst hK d7_drop_1 zki0 ?_
  refine g_putI hK zfin_7 (fa_7_0 kc_292) q_1197 zc0 rfl (tyX7_ok 0 (by decide)) tyX7 tyX7_ok nmX7 d7_drop_2 ?_
  refine g_ltM (fun m1 => ?_)
  refine g_aload_n hK 0 rfl rfl d7_drop_5 ?_
  refine g_callVcm hK (rm := rm7_begins) (cb := 0) (sb := 0) (As := []) (b := 292) (n := 0) (c7_begins K.2.1 hK.2.2.2.2.2.2.2.2.1 Z  m1 ) rfl (ci := 7) rfl (by decide) kc_292 q_1656 q_1658 qs_7_begins q_7 q_1659 rfl (by decide +kernel) (by decide) (Nat.le_of_ble_eq_true rfl) (Nat.le_of_ble_eq_true rfl) (Nat.le_of_ble_eq_true rfl) rfl d7_drop_6 (fun m2 hm2 => ?_)
  refine g_aload_n hK 0 rfl rfl d7_drop_9 ?_
  refine g_getR hK zfin_7 (fa_7_1 kc_292) q_1198 (r := 293) (by decide +kernel) d7_drop_10 ?_
  refine g_iconst hK d7_drop_13 zki0 ?_
  refine g_iald hK kc_293 d7_drop_14 (fun _ hl1 => ?_)
  refine g_if_ne hK hl1 (tgt := 24) (by decide) d7_drop_15 (fun _ => ?_) (fun _ => ?_)
  · refine g_aload_n hK 0 rfl rfl d7_drop_24 ?_
    refine g_getR hK zfin_7 (fa_7_1 kc_292) q_1198 (r := 293) (by decide +kernel) d7_drop_25 ?_
    refine g_iconst hK d7_drop_28 zki0 ?_
    refine g_dup2 hK d7_drop_29 rfl rfl ?_
    refine g_iald hK kc_293 d7_drop_30 (fun _ hl2 => ?_)
    refine g_iconst hK d7_drop_31 zki1 ?_
    refine g_isub hK d7_drop_32 (fun v1 hv1 => ?_)
    refine g_iast hK hv1 kc_293 d7_drop_33 (fun _ => ?_)
    refine g_ltM (fun m3 => ?_)
    refine g_aload_n hK 0 rfl rfl d7_drop_34 ?_
    refine g_aload_n hK 0 rfl rfl d7_drop_35 ?_
    refine g_getR hK zfin_7 (fa_7_1 kc_292) q_1198 (r := 293) (by decide +kernel) d7_drop_36 ?_
    refine g_iconst hK d7_drop_39 zki0 ?_
    refine g_iald hK kc_293 d7_drop_40 (fun _ hl3 => ?_)
    refine g_callVcl hK (mk := mkI) (rm := rm7_done) (cb := 0) (sb := 0) (As := [.int (zi (zI m3 293 (zx 0)))]) (b := 292) (n := 1) (c7_done K.2.1 hK.2.2.2.2.2.2.2.2.1 Z (zI m3 293 (zx 0)) m3 hl3) rfl (ci := 7) rfl (by decide) kc_292 q_1680 q_1682 qs_7_done q_7 q_1683 rfl (by decide +kernel) (by decide) (Nat.le_of_ble_eq_true rfl) (Nat.le_of_ble_eq_true rfl) (Nat.le_of_ble_eq_true rfl) rfl d7_drop_41 (fun r1 m4 hr1 hpr1 => ?_)
    exact g_iret hK hpr1 rfl rfl d7_drop_44
  · refine g_aload_n hK 0 rfl rfl d7_drop_18 ?_
    refine g_iconst hK d7_drop_19 zki1 ?_
    refine g_callVcl hK (mk := mkI) (rm := rm7_refused) (cb := 0) (sb := 0) (As := [.int (zi 1)]) (b := 292) (n := 1) (c7_refused K.2.1 hK.2.2.2.2.2.2.2.2.1 Z 1 m2 zc1) rfl (ci := 7) rfl (by decide) kc_292 q_1660 q_1662 qs_7_refused q_7 q_1663 rfl (by decide +kernel) (by decide) (Nat.le_of_ble_eq_true rfl) (Nat.le_of_ble_eq_true rfl) (Nat.le_of_ble_eq_true rfl) rfl d7_drop_20 (fun r2 m5 hr2 hpr2 => ?_)
    exact g_iret hK hpr2 rfl rfl d7_drop_23
set_option maxRecDepth 20000 in
theorem p7_setOrder_30 {K : zK} {Z : zZ} (hcx : zOk K Z b7_setOrder RX7 3 (some .int) 2 54 0 0 ∧ ∀ x ∈ K.2.2.2.2.2.2.2.2.2.exceptionTable.toList, False) (a1 : Int) (ha1 : zr a1) (x2 : Int) (s0 : Int) (s1 : Int) (μ : zM) (hx2 : zr x2) (hs0 : zr s0) (hs1 : zr s1) : zG K Z (zΩ Z) (zF K Z (zΩ Z) (ze2 mkI)) 0 0 30 [(0, .ref (Z.2.2.1 + 292)), (2, .int (zi x2))] [.int (zi s0), .int (zi s1), .ref (Z.2.2.1 + 293)] μ (f7_setOrder_30 a1 x2 s0 s1 μ) := by
  obtain ⟨hK, hex⟩ := id hcx
  unfold f7_setOrder_30
  refine g_iast hK hs0 kc_293 d7_setOrder_30 (fun _ => ?_)
  refine g_ltM (fun m3 => ?_)
  refine g_aload_n hK 0 rfl rfl d7_setOrder_31 ?_
  refine g_iload_n hK 1 rfl rfl d7_setOrder_32 ?_
  refine g_callVcl hK (mk := mkI) (rm := rm7_done) (cb := 0) (sb := 0) (As := [.int (zi x2)]) (b := 292) (n := 1) (c7_done K.2.1 hK.2.2.2.2.2.2.2.2.1 Z x2 m3 hx2) rfl (ci := 7) rfl (by decide) kc_292 q_1680 q_1682 qs_7_done q_7 q_1683 rfl (by decide +kernel) (by decide) (Nat.le_of_ble_eq_true rfl) (Nat.le_of_ble_eq_true rfl) (Nat.le_of_ble_eq_true rfl) rfl d7_setOrder_33 (fun r1 m4 hr1 hpr1 => ?_)
  exact g_iret hK hpr1 rfl rfl d7_setOrder_36
set_option maxRecDepth 20000 in
theorem c7_setOrder (l : Launch) (hst : l.stackTraces = false) (Z : zZ) (a1 : Int) (μ : zM) (ha1 : zr a1) : ∀ x, f7_setOrder a1 μ = some x → zCt l Z (zΩ Z) y7_setOrder (zws (.code y7_setOrder b7_setOrder 3 (some .int))) rm7_setOrder [.ref (Z.2.2.1 + 292), .int (zi a1)] μ (ze2 mkI x) := by
  intro x h
  refine zCt.of (enc := (ze2 mkI)) h (by decide) hst (Nat.le_of_ble_eq_true rfl) (fun K hK0 hex hl _ => ?_)
  subst hl
  have hcx : zOk K Z b7_setOrder RX7 3 (some .int) 2 54 0 0 ∧ ∀ x ∈ K.2.2.2.2.2.2.2.2.2.exceptionTable.toList, False := ⟨hK0, hex⟩
  have hK := hcx.1
  show zG K Z (zΩ Z) (zF K Z (zΩ Z) (ze2 mkI)) 0 0 0 [(0, .ref (Z.2.2.1 + 292)), (1, .int (zi a1))] [] μ (f7_setOrder a1 μ)
  unfold f7_setOrder
  refine g_aload_n hK 0 rfl rfl d7_setOrder_0 ?_
  refine g_iconst hK d7_setOrder_1 zki0 ?_
  refine g_putI hK zfin_7 (fa_7_0 kc_292) q_1197 zc0 rfl (tyX7_ok 0 (by decide)) tyX7 tyX7_ok nmX7 d7_setOrder_2 ?_
  refine g_ltM (fun m1 => ?_)
  refine g_aload_n hK 0 rfl rfl d7_setOrder_5 ?_
  refine g_callVcm hK (rm := rm7_begins) (cb := 0) (sb := 0) (As := []) (b := 292) (n := 0) (c7_begins K.2.1 hK.2.2.2.2.2.2.2.2.1 Z  m1 ) rfl (ci := 7) rfl (by decide) kc_292 q_1656 q_1658 qs_7_begins q_7 q_1659 rfl (by decide +kernel) (by decide) (Nat.le_of_ble_eq_true rfl) (Nat.le_of_ble_eq_true rfl) (Nat.le_of_ble_eq_true rfl) rfl d7_setOrder_6 (fun m2 hm2 => ?_)
  refine g_aload_n hK 0 rfl rfl d7_setOrder_9 ?_
  refine g_getR hK zfin_7 (fa_7_1 kc_292) q_1198 (r := 293) (by decide +kernel) d7_setOrder_10 ?_
  refine g_iconst hK d7_setOrder_13 zki1 ?_
  refine g_iald hK kc_293 d7_setOrder_14 (fun _ hl1 => ?_)
  refine g_ltI hl1 (fun v1 hv1 => ?_)
  refine g_istore_n hK (lv2 := [(0, .ref (Z.2.2.1 + 292)), (1, .int (zi a1)), (2, .int (zi v1))]) [1, 2, 0] rfl rfl (by decide) d7_setOrder_15 ?_
  refine g_aload_n hK 0 rfl rfl d7_setOrder_16 ?_
  refine g_getR hK zfin_7 (fa_7_1 kc_292) q_1198 (r := 293) (by decide +kernel) d7_setOrder_17 ?_
  refine g_iconst hK d7_setOrder_20 zki1 ?_
  refine g_iload_n hK 1 rfl rfl d7_setOrder_21 ?_
  refine g_if_eq hK ha1 (tgt := 29) (by decide) d7_setOrder_22 (fun _ => ?_) (fun _ => ?_)
  · refine g_iconst hK d7_setOrder_29 zki0 ?_
    refine g_lv (lv2 := [(0, .ref (Z.2.2.1 + 292)), (2, .int (zi v1))]) [0, 2] rfl ?_
    exact p7_setOrder_30 hcx a1 ha1  v1 0 1 m2 hv1 zc0 zc1
  · refine g_iconst hK d7_setOrder_25 zki1 ?_
    refine g_goto hK (tgt := 30) (by decide) d7_setOrder_26 ?_
    refine g_lv (lv2 := [(0, .ref (Z.2.2.1 + 292)), (2, .int (zi v1))]) [0, 2] rfl ?_
    exact p7_setOrder_30 hcx a1 ha1  v1 1 1 m2 hv1 zc1 zc1
set_option maxRecDepth 20000 in
theorem p7_undo_18 {K : zK} {Z : zZ} (hcx : zOk K Z b7_undo RX7 1 (some .int) 1 32 0 0 ∧ ∀ x ∈ K.2.2.2.2.2.2.2.2.2.exceptionTable.toList, False) (s0 : Int) (μ : zM) (hs0 : zr s0) : zG K Z (zΩ Z) (zF K Z (zΩ Z) (ze2 mkI)) 0 0 18 [(0, .ref (Z.2.2.1 + 292))] [.int (zi s0), .ref (Z.2.2.1 + 292)] μ (f7_undo_18 s0 μ) := by
  obtain ⟨hK, hex⟩ := id hcx
  unfold f7_undo_18
  refine g_iconst hK d7_undo_18 zki1 ?_
  refine g_callVcl hK (mk := mkZ) (rm := rm7_throwsIf) (cb := 0) (sb := 0) (As := [.int (zi s0), .int (zi 1)]) (b := 292) (n := 2) (c7_throwsIf K.2.1 hK.2.2.2.2.2.2.2.2.1 Z s0 1 μ hs0 zc1) rfl (ci := 7) rfl (by decide) kc_292 q_1317 q_1319 qs_7_throwsIf q_7 q_1320 rfl (by decide +kernel) (by decide) (Nat.le_of_ble_eq_true rfl) (Nat.le_of_ble_eq_true rfl) (Nat.le_of_ble_eq_true rfl) rfl d7_undo_19 (fun r1 m2 hr1 hpr1 => ?_)
  refine g_if_eq hK (zb_r r1) (tgt := 27) (by decide) d7_undo_22 (fun _ => ?_) (fun _ => ?_)
  · refine g_aload_n hK 0 rfl rfl d7_undo_27 ?_
    refine g_dup hK d7_undo_28 rfl ?_
    refine g_getI hK zfin_7 (fa_7_7 kc_292) q_1204 d7_undo_29 (fun hf2 => ?_)
    refine g_iconst hK d7_undo_32 zki1 ?_
    refine g_isub hK d7_undo_33 (fun v1 hv1 => ?_)
    refine g_putI hK zfin_7 (fa_7_7 kc_292) q_1204 hv1 rfl (tyX7_ok 7 (by decide)) tyX7 tyX7_ok nmX7 d7_undo_34 ?_
    refine g_ltM (fun m3 => ?_)
    refine g_aload_n hK 0 rfl rfl d7_undo_37 ?_
    refine g_getR hK zfin_7 (fa_7_3 kc_292) q_1200 (r := 295) (by decide +kernel) d7_undo_38 ?_
    refine g_sipush hK d7_undo_41 zks2256 ?_
    refine g_aload_n hK 0 rfl rfl d7_undo_44 ?_
    refine g_getI hK zfin_7 (fa_7_7 kc_292) q_1204 d7_undo_45 (fun hf3 => ?_)
    refine g_imul hK d7_undo_48 (fun v2 hv2 => ?_)
    refine g_aload_n hK 0 rfl rfl d7_undo_49 ?_
    refine g_getR hK zfin_7 (fa_7_1 kc_292) q_1198 (r := 293) (by decide +kernel) d7_undo_50 ?_
    refine g_iconst hK d7_undo_53 zki0 ?_
    refine g_callScm hK (rm := rm7_copies) (cb := 0) (sb := 0) (As := [.ref (Z.2.2.1 + 295), .int (zi v2), .ref (Z.2.2.1 + 293), .int (zi 0)]) (n := 4) (c7_copies K.2.1 hK.2.2.2.2.2.2.2.2.1 Z 295 v2 293 0 m3 kc_295 hv2 kc_293 zc0) q_1633 q_1634 q_7 q_1635 rfl (by decide +kernel) (by decide) (Nat.le_of_ble_eq_true rfl) (Nat.le_of_ble_eq_true rfl) (Nat.le_of_ble_eq_true rfl) rfl d7_undo_54 (fun m4 hm4 => ?_)
    refine g_aload_n hK 0 rfl rfl d7_undo_57 ?_
    refine g_getI hK zfin_7 (fa_7_7 kc_292) q_1204 d7_undo_58 (fun hf4 => ?_)
    exact g_iret hK hf4 rfl rfl d7_undo_61
  · refine g_iconst hK d7_undo_25 zki0 ?_
    exact g_iret hK zc0 rfl rfl d7_undo_26
set_option maxRecDepth 20000 in
theorem c7_undo (l : Launch) (hst : l.stackTraces = false) (Z : zZ) (μ : zM) : ∀ x, f7_undo μ = some x → zCt l Z (zΩ Z) y7_undo (zws (.code y7_undo b7_undo 1 (some .int))) rm7_undo [.ref (Z.2.2.1 + 292)] μ (ze2 mkI x) := by
  intro x h
  refine zCt.of (enc := (ze2 mkI)) h (by decide) hst (Nat.le_of_ble_eq_true rfl) (fun K hK0 hex hl _ => ?_)
  subst hl
  have hcx : zOk K Z b7_undo RX7 1 (some .int) 1 32 0 0 ∧ ∀ x ∈ K.2.2.2.2.2.2.2.2.2.exceptionTable.toList, False := ⟨hK0, hex⟩
  have hK := hcx.1
  show zG K Z (zΩ Z) (zF K Z (zΩ Z) (ze2 mkI)) 0 0 0 [(0, .ref (Z.2.2.1 + 292))] [] μ (f7_undo μ)
  unfold f7_undo
  refine g_aload_n hK 0 rfl rfl d7_undo_0 ?_
  refine g_iconst hK d7_undo_1 zki0 ?_
  refine g_putI hK zfin_7 (fa_7_0 kc_292) q_1197 zc0 rfl (tyX7_ok 0 (by decide)) tyX7 tyX7_ok nmX7 d7_undo_2 ?_
  refine g_ltM (fun m1 => ?_)
  refine g_aload_n hK 0 rfl rfl d7_undo_5 ?_
  refine g_aload_n hK 0 rfl rfl d7_undo_6 ?_
  refine g_getI hK zfin_7 (fa_7_7 kc_292) q_1204 d7_undo_7 (fun hf1 => ?_)
  refine g_if_ne hK hf1 (tgt := 17) (by decide) d7_undo_10 (fun _ => ?_) (fun _ => ?_)
  · refine g_iconst hK d7_undo_17 zki0 ?_
    exact p7_undo_18 hcx  0 m1 zc0
  · refine g_iconst hK d7_undo_13 zki1 ?_
    refine g_goto hK (tgt := 18) (by decide) d7_undo_14 ?_
    exact p7_undo_18 hcx  1 m1 zc1
set_option maxRecDepth 20000 in
theorem p7_noSlot_20 {K : zK} {Z : zZ} (hcx : zOk K Z b7_noSlot RX7 2 (some .boolean) 1 30 0 0 ∧ ∀ x ∈ K.2.2.2.2.2.2.2.2.2.exceptionTable.toList, False) (a1 : Int) (ha1 : zr a1) (s0 : Int) (μ : zM) (hs0 : zr s0) : zG K Z (zΩ Z) (zF K Z (zΩ Z) (ze2 mkZ)) 0 0 20 [] [.int (zi s0), .ref (Z.2.2.1 + 292)] μ (f7_noSlot_20 a1 s0 μ) := by
  obtain ⟨hK, hex⟩ := id hcx
  unfold f7_noSlot_20
  refine g_iconst hK d7_noSlot_20 zki1 ?_
  refine g_callVcl hK (mk := mkZ) (rm := rm7_throwsIf) (cb := 0) (sb := 0) (As := [.int (zi s0), .int (zi 1)]) (b := 292) (n := 2) (c7_throwsIf K.2.1 hK.2.2.2.2.2.2.2.2.1 Z s0 1 μ hs0 zc1) rfl (ci := 7) rfl (by decide) kc_292 q_1317 q_1319 qs_7_throwsIf q_7 q_1320 rfl (by decide +kernel) (by decide) (Nat.le_of_ble_eq_true rfl) (Nat.le_of_ble_eq_true rfl) (Nat.le_of_ble_eq_true rfl) rfl d7_noSlot_21 (fun r2 m2 hr2 hpr2 => ?_)
  exact g_zret hK (zb01 _) rfl rfl d7_noSlot_24
set_option maxRecDepth 20000 in
theorem c7_noSlot (l : Launch) (hst : l.stackTraces = false) (Z : zZ) (a1 : Int) (μ : zM) (ha1 : zr a1) : ∀ x, f7_noSlot a1 μ = some x → zCt l Z (zΩ Z) y7_noSlot (zws (.code y7_noSlot b7_noSlot 2 (some .boolean))) rm7_noSlot [.ref (Z.2.2.1 + 292), .int (zi a1)] μ (ze2 mkZ x) := by
  intro x h
  refine zCt.of (enc := (ze2 mkZ)) h (by decide) hst (Nat.le_of_ble_eq_true rfl) (fun K hK0 hex hl _ => ?_)
  subst hl
  have hcx : zOk K Z b7_noSlot RX7 2 (some .boolean) 1 30 0 0 ∧ ∀ x ∈ K.2.2.2.2.2.2.2.2.2.exceptionTable.toList, False := ⟨hK0, hex⟩
  have hK := hcx.1
  show zG K Z (zΩ Z) (zF K Z (zΩ Z) (ze2 mkZ)) 0 0 0 [(0, .ref (Z.2.2.1 + 292)), (1, .int (zi a1))] [] μ (f7_noSlot a1 μ)
  unfold f7_noSlot
  refine g_aload_n hK 0 rfl rfl d7_noSlot_0 ?_
  refine g_iconst hK d7_noSlot_1 zki0 ?_
  refine g_putI hK zfin_7 (fa_7_0 kc_292) q_1197 zc0 rfl (tyX7_ok 0 (by decide)) tyX7 tyX7_ok nmX7 d7_noSlot_2 ?_
  refine g_ltM (fun m1 => ?_)
  refine g_aload_n hK 0 rfl rfl d7_noSlot_5 ?_
  refine g_iload_n hK 1 rfl rfl d7_noSlot_6 ?_
  refine g_iconst hK d7_noSlot_7 zki0 ?_
  refine g_iconst hK d7_noSlot_8 zki1 ?_
  refine g_callSco hK (mk := mkZ) (rm := rm7_within) (cb := 0) (sb := 0) (As := [.int (zi a1), .int (zi 0), .int (zi 1)]) (n := 3) (c7_within K.2.1 hK.2.2.2.2.2.2.2.2.1 Z a1 0 1 m1 ha1 zc0 zc1) q_1344 q_1345 q_7 q_1346 rfl (by decide +kernel) (by decide) (Nat.le_of_ble_eq_true rfl) (Nat.le_of_ble_eq_true rfl) (Nat.le_of_ble_eq_true rfl) rfl d7_noSlot_9 (fun r1 hr1 hpr1 => ?_)
  refine g_if_ne hK (zb_r r1) (tgt := 19) (by decide) d7_noSlot_12 (fun _ => ?_) (fun _ => ?_)
  · refine g_iconst hK d7_noSlot_19 zki0 ?_
    refine g_lv (lv2 := []) [] rfl ?_
    exact p7_noSlot_20 hcx a1 ha1  0 m1 zc0
  · refine g_iconst hK d7_noSlot_15 zki1 ?_
    refine g_goto hK (tgt := 20) (by decide) d7_noSlot_16 ?_
    refine g_lv (lv2 := []) [] rfl ?_
    exact p7_noSlot_20 hcx a1 ha1  1 m1 zc1
set_option maxRecDepth 20000 in
theorem c7_save (l : Launch) (hst : l.stackTraces = false) (Z : zZ) (a1 : Int) (μ : zM) (ha1 : zr a1) : ∀ x, f7_save a1 μ = some x → zCt l Z (zΩ Z) y7_save (zws (.code y7_save b7_save 2 (some .int))) rm7_save [.ref (Z.2.2.1 + 292), .int (zi a1)] μ (ze2 mkI x) := by
  intro x h
  refine zCt.of (enc := (ze2 mkI)) h (by decide) hst (Nat.le_of_ble_eq_true rfl) (fun K hK0 hex hl _ => ?_)
  subst hl
  have hcx : zOk K Z b7_save RX7 2 (some .int) 2 51 0 0 ∧ ∀ x ∈ K.2.2.2.2.2.2.2.2.2.exceptionTable.toList, False := ⟨hK0, hex⟩
  have hK := hcx.1
  show zG K Z (zΩ Z) (zF K Z (zΩ Z) (ze2 mkI)) 0 0 0 [(0, .ref (Z.2.2.1 + 292)), (1, .int (zi a1))] [] μ (f7_save a1 μ)
  unfold f7_save
  refine g_aload_n hK 0 rfl rfl d7_save_0 ?_
  refine g_iload_n hK 1 rfl rfl d7_save_1 ?_
  refine g_callVcl hK (mk := mkZ) (rm := rm7_noSlot) (cb := 0) (sb := 0) (As := [.int (zi a1)]) (b := 292) (n := 1) (c7_noSlot K.2.1 hK.2.2.2.2.2.2.2.2.1 Z a1 μ ha1) rfl (ci := 7) rfl (by decide) kc_292 q_1732 q_1734 qs_7_noSlot q_7 q_1735 rfl (by decide +kernel) (by decide) (Nat.le_of_ble_eq_true rfl) (Nat.le_of_ble_eq_true rfl) (Nat.le_of_ble_eq_true rfl) rfl d7_save_2 (fun r1 m1 hr1 hpr1 => ?_)
  refine g_if_eq hK (zb_r r1) (tgt := 10) (by decide) d7_save_5 (fun _ => ?_) (fun _ => ?_)
  · refine g_aload_n hK 0 rfl rfl d7_save_10 ?_
    refine g_getR hK zfin_7 (fa_7_1 kc_292) q_1198 (r := 293) (by decide +kernel) d7_save_11 ?_
    refine g_iconst hK d7_save_14 zki0 ?_
    refine g_aload_n hK 0 rfl rfl d7_save_15 ?_
    refine g_getR hK zfin_7 (fa_7_4 kc_292) q_1201 (r := 296) (by decide +kernel) d7_save_16 ?_
    refine g_sipush hK d7_save_19 zks2256 ?_
    refine g_iload_n hK 1 rfl rfl d7_save_22 ?_
    refine g_imul hK d7_save_23 (fun v1 hv1 => ?_)
    refine g_callScm hK (rm := rm7_copies) (cb := 0) (sb := 0) (As := [.ref (Z.2.2.1 + 293), .int (zi 0), .ref (Z.2.2.1 + 296), .int (zi v1)]) (n := 4) (c7_copies K.2.1 hK.2.2.2.2.2.2.2.2.1 Z 293 0 296 v1 m1 kc_293 zc0 kc_296 hv1) q_1633 q_1634 q_7 q_1635 rfl (by decide +kernel) (by decide) (Nat.le_of_ble_eq_true rfl) (Nat.le_of_ble_eq_true rfl) (Nat.le_of_ble_eq_true rfl) rfl d7_save_24 (fun m2 hm2 => ?_)
    refine g_aload_n hK 0 rfl rfl d7_save_27 ?_
    refine g_getR hK zfin_7 (fa_7_5 kc_292) q_1202 (r := 297) (by decide +kernel) d7_save_28 ?_
    refine g_iload_n hK 1 rfl rfl d7_save_31 ?_
    refine g_iconst hK d7_save_32 zki1 ?_
    refine g_zast hK kc_297 d7_save_33 (fun _ => ?_)
    refine g_ltM (fun m3 => ?_)
    refine g_aload_n hK 0 rfl rfl d7_save_34 ?_
    refine g_getR hK zfin_7 (fa_7_1 kc_292) q_1198 (r := 293) (by decide +kernel) d7_save_35 ?_
    refine g_iconst hK d7_save_38 zki0 ?_
    refine g_iald hK kc_293 d7_save_39 (fun _ hl1 => ?_)
    exact g_iret hK hl1 rfl rfl d7_save_40
  · refine g_iconst hK d7_save_8 zki0 ?_
    exact g_iret hK zc0 rfl rfl d7_save_9
set_option maxRecDepth 20000 in
theorem p7_restore_23 {K : zK} {Z : zZ} (hcx : zOk K Z b7_restore RX7 2 (some .int) 2 51 0 0 ∧ ∀ x ∈ K.2.2.2.2.2.2.2.2.2.exceptionTable.toList, False) (a1 : Int) (ha1 : zr a1) (s0 : Int) (μ : zM) (hs0 : zr s0) : zG K Z (zΩ Z) (zF K Z (zΩ Z) (ze2 mkI)) 0 0 23 [(0, .ref (Z.2.2.1 + 292)), (1, .int (zi a1))] [.int (zi s0), .ref (Z.2.2.1 + 292)] μ (f7_restore_23 a1 s0 μ) := by
  obtain ⟨hK, hex⟩ := id hcx
  unfold f7_restore_23
  refine g_iconst hK d7_restore_23 zki2 ?_
  refine g_callVcl hK (mk := mkZ) (rm := rm7_throwsIf) (cb := 0) (sb := 0) (As := [.int (zi s0), .int (zi 2)]) (b := 292) (n := 2) (c7_throwsIf K.2.1 hK.2.2.2.2.2.2.2.2.1 Z s0 2 μ hs0 zc2) rfl (ci := 7) rfl (by decide) kc_292 q_1317 q_1319 qs_7_throwsIf q_7 q_1320 rfl (by decide +kernel) (by decide) (Nat.le_of_ble_eq_true rfl) (Nat.le_of_ble_eq_true rfl) (Nat.le_of_ble_eq_true rfl) rfl d7_restore_24 (fun r2 m2 hr2 hpr2 => ?_)
  refine g_if_eq hK (zb_r r2) (tgt := 32) (by decide) d7_restore_27 (fun _ => ?_) (fun _ => ?_)
  · refine g_aload_n hK 0 rfl rfl d7_restore_32 ?_
    refine g_getR hK zfin_7 (fa_7_4 kc_292) q_1201 (r := 296) (by decide +kernel) d7_restore_33 ?_
    refine g_sipush hK d7_restore_36 zks2256 ?_
    refine g_iload_n hK 1 rfl rfl d7_restore_39 ?_
    refine g_imul hK d7_restore_40 (fun v1 hv1 => ?_)
    refine g_aload_n hK 0 rfl rfl d7_restore_41 ?_
    refine g_getR hK zfin_7 (fa_7_1 kc_292) q_1198 (r := 293) (by decide +kernel) d7_restore_42 ?_
    refine g_iconst hK d7_restore_45 zki0 ?_
    refine g_callScm hK (rm := rm7_copies) (cb := 0) (sb := 0) (As := [.ref (Z.2.2.1 + 296), .int (zi v1), .ref (Z.2.2.1 + 293), .int (zi 0)]) (n := 4) (c7_copies K.2.1 hK.2.2.2.2.2.2.2.2.1 Z 296 v1 293 0 m2 kc_296 hv1 kc_293 zc0) q_1633 q_1634 q_7 q_1635 rfl (by decide +kernel) (by decide) (Nat.le_of_ble_eq_true rfl) (Nat.le_of_ble_eq_true rfl) (Nat.le_of_ble_eq_true rfl) rfl d7_restore_46 (fun m3 hm3 => ?_)
    refine g_aload_n hK 0 rfl rfl d7_restore_49 ?_
    refine g_iconst hK d7_restore_50 zki0 ?_
    refine g_putI hK zfin_7 (fa_7_7 kc_292) q_1204 zc0 rfl (tyX7_ok 7 (by decide)) tyX7 tyX7_ok nmX7 d7_restore_51 ?_
    refine g_ltM (fun m4 => ?_)
    refine g_aload_n hK 0 rfl rfl d7_restore_54 ?_
    refine g_getR hK zfin_7 (fa_7_1 kc_292) q_1198 (r := 293) (by decide +kernel) d7_restore_55 ?_
    refine g_iconst hK d7_restore_58 zki0 ?_
    refine g_iald hK kc_293 d7_restore_59 (fun _ hl2 => ?_)
    exact g_iret hK hl2 rfl rfl d7_restore_60
  · refine g_iconst hK d7_restore_30 zki0 ?_
    exact g_iret hK zc0 rfl rfl d7_restore_31
set_option maxRecDepth 20000 in
theorem c7_restore (l : Launch) (hst : l.stackTraces = false) (Z : zZ) (a1 : Int) (μ : zM) (ha1 : zr a1) : ∀ x, f7_restore a1 μ = some x → zCt l Z (zΩ Z) y7_restore (zws (.code y7_restore b7_restore 2 (some .int))) rm7_restore [.ref (Z.2.2.1 + 292), .int (zi a1)] μ (ze2 mkI x) := by
  intro x h
  refine zCt.of (enc := (ze2 mkI)) h (by decide) hst (Nat.le_of_ble_eq_true rfl) (fun K hK0 hex hl _ => ?_)
  subst hl
  have hcx : zOk K Z b7_restore RX7 2 (some .int) 2 51 0 0 ∧ ∀ x ∈ K.2.2.2.2.2.2.2.2.2.exceptionTable.toList, False := ⟨hK0, hex⟩
  have hK := hcx.1
  show zG K Z (zΩ Z) (zF K Z (zΩ Z) (ze2 mkI)) 0 0 0 [(0, .ref (Z.2.2.1 + 292)), (1, .int (zi a1))] [] μ (f7_restore a1 μ)
  unfold f7_restore
  refine g_aload_n hK 0 rfl rfl d7_restore_0 ?_
  refine g_iload_n hK 1 rfl rfl d7_restore_1 ?_
  refine g_callVcl hK (mk := mkZ) (rm := rm7_noSlot) (cb := 0) (sb := 0) (As := [.int (zi a1)]) (b := 292) (n := 1) (c7_noSlot K.2.1 hK.2.2.2.2.2.2.2.2.1 Z a1 μ ha1) rfl (ci := 7) rfl (by decide) kc_292 q_1732 q_1734 qs_7_noSlot q_7 q_1735 rfl (by decide +kernel) (by decide) (Nat.le_of_ble_eq_true rfl) (Nat.le_of_ble_eq_true rfl) (Nat.le_of_ble_eq_true rfl) rfl d7_restore_2 (fun r1 m1 hr1 hpr1 => ?_)
  refine g_if_ne hK (zb_r r1) (tgt := 30) (by decide) d7_restore_5 (fun _ => ?_) (fun _ => ?_)
  · refine g_iconst hK d7_restore_30 zki0 ?_
    exact g_iret hK zc0 rfl rfl d7_restore_31
  · refine g_aload_n hK 0 rfl rfl d7_restore_8 ?_
    refine g_aload_n hK 0 rfl rfl d7_restore_9 ?_
    refine g_getR hK zfin_7 (fa_7_5 kc_292) q_1202 (r := 297) (by decide +kernel) d7_restore_10 ?_
    refine g_iload_n hK 1 rfl rfl d7_restore_13 ?_
    refine g_zald hK kc_297 d7_restore_14 (fun _ hl1 => ?_)
    refine g_if_ne hK hl1 (tgt := 22) (by decide) d7_restore_15 (fun _ => ?_) (fun _ => ?_)
    · refine g_iconst hK d7_restore_22 zki0 ?_
      exact p7_restore_23 hcx a1 ha1  0 m1 zc0
    · refine g_iconst hK d7_restore_18 zki1 ?_
      refine g_goto hK (tgt := 23) (by decide) d7_restore_19 ?_
      exact p7_restore_23 hcx a1 ha1  1 m1 zc1
