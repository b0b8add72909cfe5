set_option maxRecDepth 20000 in
theorem c7_longest (l : Launch) (hst : l.stackTraces = false) (Z : zZ) (μ : zM) : ∀ x, f7_longest μ = some x → zCt l Z (zΩ Z) y7_longest (zws (.code y7_longest b7_longest 3 (some .int))) rm7_longest [.ref (Z.2.2.1 + 292)] μ (ze2 mkI x) := by
  intro x h
  refine zCt.of (enc := (ze2 mkI)) h (by decide) hst (Nat.le_of_ble_eq_true rfl) (fun K hK0 hex hl _ => ?_)
  subst hl
  have hcx : zOk K Z b7_longest RX7 3 (some .int) 43 1112 0 0 ∧ ∀ x ∈ K.2.2.2.2.2.2.2.2.2.exceptionTable.toList, False := ⟨hK0, hex⟩
  have hK := hcx.1
  show zG K Z (zΩ Z) (zF K Z (zΩ Z) (ze2 mkI)) 0 0 0 [(0, .ref (Z.2.2.1 + 292))] [] μ (f7_longest μ)
  unfold f7_longest
  refine g_aload_n hK 0 rfl rfl d7_longest_0 ?_
  refine g_iconst hK d7_longest_1 zki0 ?_
  refine g_putI hK zfin_7 (fa_7_0 kc_292) q_1197 zc0 rfl (tyX7_ok 0 (by decide)) tyX7 tyX7_ok nmX7 d7_longest_2 ?_
  refine g_ltM (fun m1 => ?_)
  refine g_aload_n hK 0 rfl rfl d7_longest_5 ?_
  refine g_iconst hK d7_longest_6 zki1 ?_
  refine g_callVcl hK (mk := mkZ) (rm := rm7_noSession) (cb := 0) (sb := 0) (As := [.int (zi 1)]) (b := 292) (n := 1) (c7_noSession K.2.1 hK.2.2.2.2.2.2.2.2.1 Z 1 m1 zc1) rfl (ci := 7) rfl (by decide) kc_292 q_1518 q_1520 qs_7_noSession q_7 q_1521 rfl (by decide +kernel) (by decide) (Nat.le_of_ble_eq_true rfl) (Nat.le_of_ble_eq_true rfl) (Nat.le_of_ble_eq_true rfl) rfl d7_longest_7 (fun r1 m2 hr1 hpr1 => ?_)
  refine g_if_eq hK (zb_r r1) (tgt := 15) (by decide) d7_longest_10 (fun _ => ?_) (fun _ => ?_)
  · refine g_iconst hK d7_longest_15 zkim1 ?_
    refine g_istore_n hK (lv2 := [(0, .ref (Z.2.2.1 + 292)), (1, .int (zi (-1)))]) [1, 0] rfl rfl (by decide) d7_longest_16 ?_
    refine g_iconst hK d7_longest_17 zki0 ?_
    refine g_istore_n hK (lv2 := [(0, .ref (Z.2.2.1 + 292)), (1, .int (zi (-1))), (2, .int (zi 0))]) [1, 2, 0] rfl rfl (by decide) d7_longest_18 ?_
    exact l7_longest_19 hcx  zFu (-1) 0 m2 zcm1 zc0
  · refine g_iconst hK d7_longest_13 zki0 ?_
    exact g_iret hK zc0 rfl rfl d7_longest_14
set_option maxRecDepth 20000 in
theorem c7_untouched (l : Launch) (hst : l.stackTraces = false) (Z : zZ) (μ : zM) : ∀ x, f7_untouched μ = some x → zCt l Z (zΩ Z) y7_untouched (zws (.code y7_untouched b7_untouched 1 (some .float))) rm7_untouched [.ref (Z.2.2.1 + 292)] μ (ze2 mkF x) := by
  intro x h
  refine zCt.of (enc := (ze2 mkF)) h (by decide) hst (Nat.le_of_ble_eq_true rfl) (fun K hK0 hex hl _ => ?_)
  subst hl
  have hcx : zOk K Z b7_untouched RX7 1 (some .float) 5 115 0 0 ∧ ∀ x ∈ K.2.2.2.2.2.2.2.2.2.exceptionTable.toList, False := ⟨hK0, hex⟩
  have hK := hcx.1
  show zG K Z (zΩ Z) (zF K Z (zΩ Z) (ze2 mkF)) 0 0 0 [(0, .ref (Z.2.2.1 + 292))] [] μ (f7_untouched μ)
  unfold f7_untouched
  refine g_aload_n hK 0 rfl rfl d7_untouched_0 ?_
  refine g_iconst hK d7_untouched_1 zki0 ?_
  refine g_putI hK zfin_7 (fa_7_0 kc_292) q_1197 zc0 rfl (tyX7_ok 0 (by decide)) tyX7 tyX7_ok nmX7 d7_untouched_2 ?_
  refine g_ltM (fun m1 => ?_)
  refine g_aload_n hK 0 rfl rfl d7_untouched_5 ?_
  refine g_iconst hK d7_untouched_6 zki1 ?_
  refine g_callVcl hK (mk := mkZ) (rm := rm7_noSession) (cb := 0) (sb := 0) (As := [.int (zi 1)]) (b := 292) (n := 1) (c7_noSession K.2.1 hK.2.2.2.2.2.2.2.2.1 Z 1 m1 zc1) rfl (ci := 7) rfl (by decide) kc_292 q_1518 q_1520 qs_7_noSession q_7 q_1521 rfl (by decide +kernel) (by decide) (Nat.le_of_ble_eq_true rfl) (Nat.le_of_ble_eq_true rfl) (Nat.le_of_ble_eq_true rfl) rfl d7_untouched_7 (fun r1 m2 hr1 hpr1 => ?_)
  refine g_if_eq hK (zb_r r1) (tgt := 15) (by decide) d7_untouched_10 (fun _ => ?_) (fun _ => ?_)
  · refine g_aload_n hK 0 rfl rfl d7_untouched_15 ?_
    refine g_getI hK zfin_7 (fa_7_27 kc_292) q_1224 d7_untouched_16 (fun hf1 => ?_)
    refine g_aload_n hK 0 rfl rfl d7_untouched_19 ?_
    refine g_getR hK zfin_7 (fa_7_1 kc_292) q_1198 (r := 293) (by decide +kernel) d7_untouched_20 ?_
    refine g_aload_n hK 0 rfl rfl d7_untouched_23 ?_
    refine g_getI hK zfin_7 (fa_7_22 kc_292) q_1219 d7_untouched_24 (fun hf2 => ?_)
    refine g_iconst hK d7_untouched_27 zki2 ?_
    refine g_iadd hK d7_untouched_28 (fun v1 hv1 => ?_)
    refine g_iald hK kc_293 d7_untouched_29 (fun _ hl1 => ?_)
    refine g_iconst hK d7_untouched_30 zkim1 ?_
    refine g_ixor hK d7_untouched_31 (fun v2 hv2 => ?_)
    refine g_iand hK d7_untouched_32 (fun v3 hv3 => ?_)
    refine g_callSco hK (mk := mkI) (rm := rm7_bits) (cb := 0) (sb := 0) (As := [.int (zi v3)]) (n := 1) (c7_bits K.2.1 hK.2.2.2.2.2.2.2.2.1 Z v3 m2 hv3) q_1622 q_1623 q_7 q_1624 rfl (by decide +kernel) (by decide) (Nat.le_of_ble_eq_true rfl) (Nat.le_of_ble_eq_true rfl) (Nat.le_of_ble_eq_true rfl) rfl d7_untouched_33 (fun r2 hr2 hpr2 => ?_)
    refine g_i2f hK d7_untouched_36 ?_
    refine g_aload_n hK 0 rfl rfl d7_untouched_37 ?_
    refine g_getI hK zfin_7 (fa_7_27 kc_292) q_1224 d7_untouched_38 (fun hf3 => ?_)
    refine g_callSco hK (mk := mkI) (rm := rm7_bits) (cb := 0) (sb := 0) (As := [.int (zi (zI m2 292 27))]) (n := 1) (c7_bits K.2.1 hK.2.2.2.2.2.2.2.2.1 Z (zI m2 292 27) m2 hf3) q_1622 q_1623 q_7 q_1624 rfl (by decide +kernel) (by decide) (Nat.le_of_ble_eq_true rfl) (Nat.le_of_ble_eq_true rfl) (Nat.le_of_ble_eq_true rfl) rfl d7_untouched_41 (fun r3 hr3 hpr3 => ?_)
    refine g_i2f hK d7_untouched_44 ?_
    refine g_gd (fun hg0 => ?_)
    refine g_fdiv hK d7_untouched_45 hg0 ?_
    exact g_fret hK rfl rfl d7_untouched_46
  · refine g_fconst0 hK d7_untouched_13 ?_
    exact g_fret hK rfl rfl d7_untouched_14
set_option maxRecDepth 20000 in
theorem p7_meanLength_19 {K : zK} {Z : zZ} (hcx : zOk K Z b7_meanLength RX7 3 (some .double) 43 1112 0 0 ∧ ∀ x ∈ K.2.2.2.2.2.2.2.2.2.exceptionTable.toList, False) (k19 : Int → Int → zM → Option (UInt64 × zM)) (hk19 : ∀ (x1 : Int) (x2 : Int) (μ : zM) (hx1 : zr x1) (hx2 : zr x2), zG K Z (zΩ Z) (zF K Z (zΩ Z) (ze2 mkD)) 0 0 19 [(0, .ref (Z.2.2.1 + 292)), (1, .int (zi x1)), (2, .int (zi x2))] [] μ (k19 x1 x2 μ)) (x1 : Int) (x2 : Int) (μ : zM) (hx1 : zr x1) (hx2 : zr x2) : zG K Z (zΩ Z) (zF K Z (zΩ Z) (ze2 mkD)) 0 0 19 [(0, .ref (Z.2.2.1 + 292)), (1, .int (zi x1)), (2, .int (zi x2))] [] μ (f7_meanLength_19 k19 x1 x2 μ) := by
  obtain ⟨hK, hex⟩ := id hcx
  unfold f7_meanLength_19
  refine g_iload_n hK 2 rfl rfl d7_meanLength_19 ?_
  refine g_bipush hK d7_meanLength_20 zkb10 ?_
  refine g_icmp_ge hK hx2 zc10 (tgt := 54) (by decide) d7_meanLength_22 (fun _ => ?_) (fun _ => ?_)
  · refine g_iload_n hK 1 rfl rfl d7_meanLength_54 ?_
    refine g_i2d hK d7_meanLength_55 ?_
    refine g_aload_n hK 0 rfl rfl d7_meanLength_56 ?_
    refine g_getI hK zfin_7 (fa_7_27 kc_292) q_1224 d7_meanLength_57 (fun hf1 => ?_)
    refine g_callSco hK (mk := mkI) (rm := rm7_bits) (cb := 0) (sb := 0) (As := [.int (zi (zI μ 292 27))]) (n := 1) (c7_bits K.2.1 hK.2.2.2.2.2.2.2.2.1 Z (zI μ 292 27) μ hf1) q_1622 q_1623 q_7 q_1624 rfl (by decide +kernel) (by decide) (Nat.le_of_ble_eq_true rfl) (Nat.le_of_ble_eq_true rfl) (Nat.le_of_ble_eq_true rfl) rfl d7_meanLength_60 (fun r2 hr2 hpr2 => ?_)
    refine g_i2d hK d7_meanLength_63 ?_
    refine g_gd (fun hg0 => ?_)
    refine g_ddiv hK d7_meanLength_64 hg0 ?_
    exact g_dret hK rfl rfl d7_meanLength_65
  · refine g_iload_n hK 1 rfl rfl d7_meanLength_25 ?_
    refine g_aload_n hK 0 rfl rfl d7_meanLength_26 ?_
    refine g_getI hK zfin_7 (fa_7_27 kc_292) q_1224 d7_meanLength_27 (fun hf2 => ?_)
    refine g_iload_n hK 2 rfl rfl d7_meanLength_30 ?_
    refine g_callSco hK (mk := mkZ) (rm := rm7_has) (cb := 0) (sb := 0) (As := [.int (zi (zI μ 292 27)), .int (zi x2)]) (n := 2) (c7_has K.2.1 hK.2.2.2.2.2.2.2.2.1 Z (zI μ 292 27) x2 μ hf2 hx2) q_1390 q_1391 q_7 q_1392 rfl (by decide +kernel) (by decide) (Nat.le_of_ble_eq_true rfl) (Nat.le_of_ble_eq_true rfl) (Nat.le_of_ble_eq_true rfl) rfl d7_meanLength_31 (fun r3 hr3 hpr3 => ?_)
    refine g_if_eq hK (zb_r r3) (tgt := 45) (by decide) d7_meanLength_34 (fun _ => ?_) (fun _ => ?_)
    · refine g_iconst hK d7_meanLength_45 zki0 ?_
      refine g_iadd hK d7_meanLength_46 (fun v1 hv1 => ?_)
      refine g_istore_n hK (lv2 := [(0, .ref (Z.2.2.1 + 292)), (1, .int (zi v1)), (2, .int (zi x2))]) [1, 0, 2] rfl rfl (by decide) d7_meanLength_47 ?_
      refine g_iinc hK (lv2 := fun v2 => [(0, .ref (Z.2.2.1 + 292)), (1, .int (zi v1)), (2, .int (zi v2))]) 2 rfl [1, 2, 0] (fun _ => rfl) (by decide) d7_meanLength_48 (fun v2 hv2 => ?_)
      refine g_goto hK (tgt := 19) (by decide) d7_meanLength_51 ?_
      exact hk19 v1 v2 μ hv1 hv2
    · refine g_aload_n hK 0 rfl rfl d7_meanLength_37 ?_
      refine g_iload_n hK 2 rfl rfl d7_meanLength_38 ?_
      refine g_callVcl hK (mk := mkI) (rm := (rmGA 40)) (cb := 0) (sb := 0) (As := [.int (zi x2)]) (b := 292) (n := 1) (c7_valueLength 40 K.2.1 hK.2.2.2.2.2.2.2.2.1 Z x2 μ hx2) rfl (ci := 7) rfl (by decide) kc_292 q_1499 q_1501 qs_7_valueLength q_7 q_1502 rfl (by decide +kernel) (by decide) (Nat.le_of_ble_eq_true rfl) (Nat.le_of_ble_eq_true rfl) (Nat.le_of_ble_eq_true rfl) rfl d7_meanLength_39 (fun r4 m3 hr4 hpr4 => ?_)
      refine g_goto hK (tgt := 46) (by decide) d7_meanLength_42 ?_
      refine g_iadd hK d7_meanLength_46 (fun v3 hv3 => ?_)
      refine g_istore_n hK (lv2 := [(0, .ref (Z.2.2.1 + 292)), (1, .int (zi v3)), (2, .int (zi x2))]) [1, 0, 2] rfl rfl (by decide) d7_meanLength_47 ?_
      refine g_iinc hK (lv2 := fun v4 => [(0, .ref (Z.2.2.1 + 292)), (1, .int (zi v3)), (2, .int (zi v4))]) 2 rfl [1, 2, 0] (fun _ => rfl) (by decide) d7_meanLength_48 (fun v4 hv4 => ?_)
      refine g_goto hK (tgt := 19) (by decide) d7_meanLength_51 ?_
      exact hk19 v3 v4 m3 hv3 hv4
set_option maxRecDepth 20000 in
theorem l7_meanLength_19 {K : zK} {Z : zZ} (hcx : zOk K Z b7_meanLength RX7 3 (some .double) 43 1112 0 0 ∧ ∀ x ∈ K.2.2.2.2.2.2.2.2.2.exceptionTable.toList, False) : ∀ (i9 : Nat) (x1 : Int) (x2 : Int) (μ : zM) (hx1 : zr x1) (hx2 : zr x2), zG K Z (zΩ Z) (zF K Z (zΩ Z) (ze2 mkD)) 0 0 19 [(0, .ref (Z.2.2.1 + 292)), (1, .int (zi x1)), (2, .int (zi x2))] [] μ (zfx (f7_meanLength_19) (fun _ _ _ => none) i9 x1 x2 μ) := by
  intro i9
  induction i9 with
  | zero => intro x1 x2 μ hx1 hx2; exact g_none
  | succ i9 ih => intro x1 x2 μ hx1 hx2; exact p7_meanLength_19 hcx  (zfx (f7_meanLength_19) (fun _ _ _ => none) i9) ih x1 x2 μ hx1 hx2
set_option maxRecDepth 20000 in
theorem c7_meanLength (l : Launch) (hst : l.stackTraces = false) (Z : zZ) (μ : zM) : ∀ x, f7_meanLength μ = some x → zCt l Z (zΩ Z) y7_meanLength (zws (.code y7_meanLength b7_meanLength 3 (some .double))) rm7_meanLength [.ref (Z.2.2.1 + 292)] μ (ze2 mkD x) := by
  intro x h
  refine zCt.of (enc := (ze2 mkD)) h (by decide) hst (Nat.le_of_ble_eq_true rfl) (fun K hK0 hex hl _ => ?_)
  subst hl
  have hcx : zOk K Z b7_meanLength RX7 3 (some .double) 43 1112 0 0 ∧ ∀ x ∈ K.2.2.2.2.2.2.2.2.2.exceptionTable.toList, False := ⟨hK0, hex⟩
  have hK := hcx.1
  show zG K Z (zΩ Z) (zF K Z (zΩ Z) (ze2 mkD)) 0 0 0 [(0, .ref (Z.2.2.1 + 292))] [] μ (f7_meanLength μ)
  unfold f7_meanLength
  refine g_aload_n hK 0 rfl rfl d7_meanLength_0 ?_
  refine g_iconst hK d7_meanLength_1 zki0 ?_
  refine g_putI hK zfin_7 (fa_7_0 kc_292) q_1197 zc0 rfl (tyX7_ok 0 (by decide)) tyX7 tyX7_ok nmX7 d7_meanLength_2 ?_
  refine g_ltM (fun m1 => ?_)
  refine g_aload_n hK 0 rfl rfl d7_meanLength_5 ?_
  refine g_iconst hK d7_meanLength_6 zki1 ?_
  refine g_callVcl hK (mk := mkZ) (rm := rm7_noSession) (cb := 0) (sb := 0) (As := [.int (zi 1)]) (b := 292) (n := 1) (c7_noSession K.2.1 hK.2.2.2.2.2.2.2.2.1 Z 1 m1 zc1) rfl (ci := 7) rfl (by decide) kc_292 q_1518 q_1520 qs_7_noSession q_7 q_1521 rfl (by decide +kernel) (by decide) (Nat.le_of_ble_eq_true rfl) (Nat.le_of_ble_eq_true rfl) (Nat.le_of_ble_eq_true rfl) rfl d7_meanLength_7 (fun r1 m2 hr1 hpr1 => ?_)
  refine g_if_eq hK (zb_r r1) (tgt := 15) (by decide) d7_meanLength_10 (fun _ => ?_) (fun _ => ?_)
  · refine g_iconst hK d7_meanLength_15 zki0 ?_
    refine g_istore_n hK (lv2 := [(0, .ref (Z.2.2.1 + 292)), (1, .int (zi 0))]) [1, 0] rfl rfl (by decide) d7_meanLength_16 ?_
    refine g_iconst hK d7_meanLength_17 zki0 ?_
    refine g_istore_n hK (lv2 := [(0, .ref (Z.2.2.1 + 292)), (1, .int (zi 0)), (2, .int (zi 0))]) [1, 2, 0] rfl rfl (by decide) d7_meanLength_18 ?_
    exact l7_meanLength_19 hcx  zFu 0 0 m2 zc0 zc0
  · refine g_dconst0 hK d7_meanLength_13 ?_
    exact g_dret hK rfl rfl d7_meanLength_14
set_option maxRecDepth 20000 in
theorem c7_back (l : Launch) (hst : l.stackTraces = false) (Z : zZ) (a1 : Int) (μ : zM) (ha1 : zr a1) : ∀ x, f7_back a1 μ = some x → zCt l Z (zΩ Z) y7_back (zws (.code y7_back b7_back 2 (some .int))) rm7_back [.ref (Z.2.2.1 + 292), .int (zi a1)] μ (ze2 mkI x) := by
  intro x h
  refine zCt.of (enc := (ze2 mkI)) h (by decide) hst (Nat.le_of_ble_eq_true rfl) (fun K hK0 hex hl _ => ?_)
  subst hl
  have hcx : zOk K Z b7_back RX7 2 (some .int) 1 32 0 0 ∧ ∀ x ∈ K.2.2.2.2.2.2.2.2.2.exceptionTable.toList, False := ⟨hK0, hex⟩
  have hK := hcx.1
  show zG K Z (zΩ Z) (zF K Z (zΩ Z) (ze2 mkI)) 0 0 0 [(0, .ref (Z.2.2.1 + 292)), (1, .int (zi a1))] [] μ (f7_back a1 μ)
  unfold f7_back
  refine g_aload_n hK 0 rfl rfl d7_back_0 ?_
  refine g_getR hK zfin_7 (fa_7_2 kc_292) q_1199 (r := 294) (by decide +kernel) d7_back_1 ?_
  refine g_iconst hK d7_back_4 zki0 ?_
  refine g_aload_n hK 0 rfl rfl d7_back_5 ?_
  refine g_getR hK zfin_7 (fa_7_1 kc_292) q_1198 (r := 293) (by decide +kernel) d7_back_6 ?_
  refine g_iconst hK d7_back_9 zki0 ?_
  refine g_callScm hK (rm := rm7_copies) (cb := 0) (sb := 0) (As := [.ref (Z.2.2.1 + 294), .int (zi 0), .ref (Z.2.2.1 + 293), .int (zi 0)]) (n := 4) (c7_copies K.2.1 hK.2.2.2.2.2.2.2.2.1 Z 294 0 293 0 μ kc_294 zc0 kc_293 zc0) q_1633 q_1634 q_7 q_1635 rfl (by decide +kernel) (by decide) (Nat.le_of_ble_eq_true rfl) (Nat.le_of_ble_eq_true rfl) (Nat.le_of_ble_eq_true rfl) rfl d7_back_10 (fun m1 hm1 => ?_)
  refine g_iload_n hK 1 rfl rfl d7_back_13 ?_
  exact g_iret hK ha1 rfl rfl d7_back_14
set_option maxRecDepth 20000 in
theorem p7_lengthIf_157 {K : zK} {Z : zZ} (hcx : zOk K Z b7_lengthIf RX7 5 (some .int) 44 1136 0 0 ∧ ∀ x ∈ K.2.2.2.2.2.2.2.2.2.exceptionTable.toList, False) (a1 : Int) (ha1 : zr a1) (s0 : Int) (μ : zM) (hs0 : zr s0) : zG K Z (zΩ Z) (zF K Z (zΩ Z) (ze2 mkI)) 0 0 157 [] [.int (zi s0), .ref (Z.2.2.1 + 292)] μ (f7_lengthIf_157 a1 s0 μ) := by
  obtain ⟨hK, hex⟩ := id hcx
  unfold f7_lengthIf_157
  refine g_callVcl hK (mk := mkI) (rm := rm7_back) (cb := 0) (sb := 0) (As := [.int (zi s0)]) (b := 292) (n := 1) (c7_back K.2.1 hK.2.2.2.2.2.2.2.2.1 Z s0 μ hs0) rfl (ci := 7) rfl (by decide) kc_292 q_1636 q_1638 qs_7_back q_7 q_1639 rfl (by decide +kernel) (by decide) (Nat.le_of_ble_eq_true rfl) (Nat.le_of_ble_eq_true rfl) (Nat.le_of_ble_eq_true rfl) rfl d7_lengthIf_157 (fun r6 m9 hr6 hpr6 => ?_)
  exact g_iret hK hpr6 rfl rfl d7_lengthIf_160
set_option maxRecDepth 20000 in
theorem p7_lengthIf_88 {K : zK} {Z : zZ} (hcx : zOk K Z b7_lengthIf RX7 5 (some .int) 44 1136 0 0 ∧ ∀ x ∈ K.2.2.2.2.2.2.2.2.2.exceptionTable.toList, False) (a1 : Int) (ha1 : zr a1) (x2 : Int) (s0 : Int) (μ : zM) (hx2 : zr x2) (hs0 : zr s0) : zG K Z (zΩ Z) (zF K Z (zΩ Z) (ze2 mkI)) 0 0 88 [(0, .ref (Z.2.2.1 + 292)), (1, .int (zi a1)), (2, .int (zi x2))] [.int (zi s0)] μ (f7_lengthIf_88 a1 x2 s0 μ) := by
  obtain ⟨hK, hex⟩ := id hcx
  unfold f7_lengthIf_88
  refine g_istore_n hK (lv2 := [(0, .ref (Z.2.2.1 + 292)), (1, .int (zi a1)), (2, .int (zi x2)), (3, .int (zi s0))]) [1, 2, 3, 0] rfl rfl (by decide) d7_lengthIf_88 ?_
  refine g_iload_n hK 3 rfl rfl d7_lengthIf_89 ?_
  refine g_iload_n hK 1 rfl rfl d7_lengthIf_90 ?_
  refine g_iadd hK d7_lengthIf_91 (fun v5 hv5 => ?_)
  refine g_bipush hK d7_lengthIf_92 zkb40 ?_
  refine g_icmp_le hK hv5 zc40 (tgt := 99) (by decide) d7_lengthIf_94 (fun _ => ?_) (fun _ => ?_)
  · refine g_aload_n hK 0 rfl rfl d7_lengthIf_99 ?_
    refine g_getR hK zfin_7 (fa_7_1 kc_292) q_1198 (r := 293) (by decide +kernel) d7_lengthIf_100 ?_
    refine g_aload_n hK 0 rfl rfl d7_lengthIf_103 ?_
    refine g_getI hK zfin_7 (fa_7_22 kc_292) q_1219 d7_lengthIf_104 (fun hf3 => ?_)
    refine g_iconst hK d7_lengthIf_107 zki2 ?_
    refine g_iadd hK d7_lengthIf_108 (fun v6 hv6 => ?_)
    refine g_dup2 hK d7_lengthIf_109 rfl rfl ?_
    refine g_iald hK kc_293 d7_lengthIf_110 (fun _ hl3 => ?_)
    refine g_iconst hK d7_lengthIf_111 zki1 ?_
    refine g_iload_n hK 2 rfl rfl d7_lengthIf_112 ?_
    refine g_ishl hK d7_lengthIf_113 (fun v7 hv7 => ?_)
    refine g_ior hK d7_lengthIf_114 (fun v8 hv8 => ?_)
    refine g_iast hK hv8 kc_293 d7_lengthIf_115 (fun _ => ?_)
    refine g_ltM (fun m5 => ?_)
    refine g_aload_n hK 0 rfl rfl d7_lengthIf_116 ?_
    refine g_getR hK zfin_7 (fa_7_1 kc_292) q_1198 (r := 293) (by decide +kernel) d7_lengthIf_117 ?_
    refine g_aload_n hK 0 rfl rfl d7_lengthIf_120 ?_
    refine g_getI hK zfin_7 (fa_7_22 kc_292) q_1219 d7_lengthIf_121 (fun hf4 => ?_)
    refine g_iconst hK d7_lengthIf_124 zki3 ?_
    refine g_iadd hK d7_lengthIf_125 (fun v9 hv9 => ?_)
    refine g_iload_n hK 2 rfl rfl d7_lengthIf_126 ?_
    refine g_iadd hK d7_lengthIf_127 (fun v10 hv10 => ?_)
    refine g_iload_n hK 3 rfl rfl d7_lengthIf_128 ?_
    refine g_iload_n hK 1 rfl rfl d7_lengthIf_129 ?_
    refine g_iadd hK d7_lengthIf_130 (fun v11 hv11 => ?_)
    refine g_iast hK hv11 kc_293 d7_lengthIf_131 (fun _ => ?_)
    refine g_ltM (fun m6 => ?_)
    refine g_aload_n hK 0 rfl rfl d7_lengthIf_132 ?_
    refine g_callVcm hK (rm := rm7_shows) (cb := 0) (sb := 0) (As := []) (b := 292) (n := 0) (c7_shows K.2.1 hK.2.2.2.2.2.2.2.2.1 Z  m6 ) rfl (ci := 7) rfl (by decide) kc_292 q_1471 q_1473 qs_7_shows q_7 q_1474 rfl (by decide +kernel) (by decide) (Nat.le_of_ble_eq_true rfl) (Nat.le_of_ble_eq_true rfl) (Nat.le_of_ble_eq_true rfl) rfl d7_lengthIf_133 (fun m7 hm7 => ?_)
    refine g_aload_n hK 0 rfl rfl d7_lengthIf_136 ?_
    refine g_callVcl hK (mk := mkI) (rm := rm7_textLength) (cb := 0) (sb := 0) (As := []) (b := 292) (n := 0) (c7_textLength K.2.1 hK.2.2.2.2.2.2.2.2.1 Z  m7 ) rfl (ci := 7) rfl (by decide) kc_292 q_1487 q_1489 qs_7_textLength q_7 q_1490 rfl (by decide +kernel) (by decide) (Nat.le_of_ble_eq_true rfl) (Nat.le_of_ble_eq_true rfl) (Nat.le_of_ble_eq_true rfl) rfl d7_lengthIf_137 (fun r5 m8 hr5 hpr5 => ?_)
    refine g_istore hK (lv2 := [(0, .ref (Z.2.2.1 + 292)), (1, .int (zi a1)), (2, .int (zi x2)), (3, .int (zi s0)), (4, .int (zi r5))]) [1, 2, 3, 4, 0] rfl (by decide) d7_lengthIf_140 ?_
    refine g_aload_n hK 0 rfl rfl d7_lengthIf_142 ?_
    refine g_iload hK 4 rfl d7_lengthIf_143 ?_
    refine g_sipush hK d7_lengthIf_145 zks400 ?_
    refine g_icmp_le hK hpr5 zc400 (tgt := 155) (by decide) d7_lengthIf_148 (fun _ => ?_) (fun _ => ?_)
    · refine g_iload hK 4 rfl d7_lengthIf_155 ?_
      refine g_lv (lv2 := []) [] rfl ?_
      exact p7_lengthIf_157 hcx a1 ha1  r5 m8 hpr5
    · refine g_iconst hK d7_lengthIf_151 zkim1 ?_
      refine g_goto hK (tgt := 157) (by decide) d7_lengthIf_152 ?_
      refine g_lv (lv2 := []) [] rfl ?_
      exact p7_lengthIf_157 hcx a1 ha1  (-1) m8 zcm1
  · refine g_iconst hK d7_lengthIf_97 zkim1 ?_
    exact g_iret hK zcm1 rfl rfl d7_lengthIf_98
set_option maxRecDepth 20000 in
theorem p7_lengthIf_21 {K : zK} {Z : zZ} (hcx : zOk K Z b7_lengthIf RX7 5 (some .int) 44 1136 0 0 ∧ ∀ x ∈ K.2.2.2.2.2.2.2.2.2.exceptionTable.toList, False) (a1 : Int) (ha1 : zr a1) (s0 : Int) (μ : zM) (hs0 : zr s0) : zG K Z (zΩ Z) (zF K Z (zΩ Z) (ze2 mkI)) 0 0 21 [(0, .ref (Z.2.2.1 + 292)), (1, .int (zi a1))] [.int (zi s0), .ref (Z.2.2.1 + 292)] μ (f7_lengthIf_21 a1 s0 μ) := by
  obtain ⟨hK, hex⟩ := id hcx
  unfold f7_lengthIf_21
  refine g_iconst hK d7_lengthIf_21 zki1 ?_
  refine g_callVcl hK (mk := mkZ) (rm := rm7_throwsIf) (cb := 0) (sb := 0) (As := [.int (zi s0), .int (zi 1)]) (b := 292) (n := 2) (c7_throwsIf K.2.1 hK.2.2.2.2.2.2.2.2.1 Z s0 1 μ hs0 zc1) rfl (ci := 7) rfl (by decide) kc_292 q_1317 q_1319 qs_7_throwsIf q_7 q_1320 rfl (by decide +kernel) (by decide) (Nat.le_of_ble_eq_true rfl) (Nat.le_of_ble_eq_true rfl) (Nat.le_of_ble_eq_true rfl) rfl d7_lengthIf_22 (fun r2 m2 hr2 hpr2 => ?_)
  refine g_if_ne hK (zb_r r2) (tgt := 36) (by decide) d7_lengthIf_25 (fun _ => ?_) (fun _ => ?_)
  · refine g_iconst hK d7_lengthIf_36 zki0 ?_
    exact g_iret hK zc0 rfl rfl d7_lengthIf_37
  · refine g_aload_n hK 0 rfl rfl d7_lengthIf_28 ?_
    refine g_iconst hK d7_lengthIf_29 zki2 ?_
    refine g_callVcl hK (mk := mkZ) (rm := rm7_noSession) (cb := 0) (sb := 0) (As := [.int (zi 2)]) (b := 292) (n := 1) (c7_noSession K.2.1 hK.2.2.2.2.2.2.2.2.1 Z 2 m2 zc2) rfl (ci := 7) rfl (by decide) kc_292 q_1518 q_1520 qs_7_noSession q_7 q_1521 rfl (by decide +kernel) (by decide) (Nat.le_of_ble_eq_true rfl) (Nat.le_of_ble_eq_true rfl) (Nat.le_of_ble_eq_true rfl) rfl d7_lengthIf_30 (fun r3 m3 hr3 hpr3 => ?_)
    refine g_if_eq hK (zb_r r3) (tgt := 38) (by decide) d7_lengthIf_33 (fun _ => ?_) (fun _ => ?_)
    · refine g_aload_n hK 0 rfl rfl d7_lengthIf_38 ?_
      refine g_getR hK zfin_7 (fa_7_1 kc_292) q_1198 (r := 293) (by decide +kernel) d7_lengthIf_39 ?_
      refine g_iconst hK d7_lengthIf_42 zki0 ?_
      refine g_aload_n hK 0 rfl rfl d7_lengthIf_43 ?_
      refine g_getR hK zfin_7 (fa_7_2 kc_292) q_1199 (r := 294) (by decide +kernel) d7_lengthIf_44 ?_
      refine g_iconst hK d7_lengthIf_47 zki0 ?_
      refine g_callScm hK (rm := rm7_copies) (cb := 0) (sb := 0) (As := [.ref (Z.2.2.1 + 293), .int (zi 0), .ref (Z.2.2.1 + 294), .int (zi 0)]) (n := 4) (c7_copies K.2.1 hK.2.2.2.2.2.2.2.2.1 Z 293 0 294 0 m3 kc_293 zc0 kc_294 zc0) q_1633 q_1634 q_7 q_1635 rfl (by decide +kernel) (by decide) (Nat.le_of_ble_eq_true rfl) (Nat.le_of_ble_eq_true rfl) (Nat.le_of_ble_eq_true rfl) rfl d7_lengthIf_48 (fun m4 hm4 => ?_)
      refine g_aload_n hK 0 rfl rfl d7_lengthIf_51 ?_
      refine g_getR hK zfin_7 (fa_7_1 kc_292) q_1198 (r := 293) (by decide +kernel) d7_lengthIf_52 ?_
      refine g_aload_n hK 0 rfl rfl d7_lengthIf_55 ?_
      refine g_getI hK zfin_7 (fa_7_22 kc_292) q_1219 d7_lengthIf_56 (fun hf1 => ?_)
      refine g_iconst hK d7_lengthIf_59 zki1 ?_
      refine g_iadd hK d7_lengthIf_60 (fun v1 hv1 => ?_)
      refine g_iald hK kc_293 d7_lengthIf_61 (fun _ hl1 => ?_)
      refine g_ltI hl1 (fun v2 hv2 => ?_)
      refine g_istore_n hK (lv2 := [(0, .ref (Z.2.2.1 + 292)), (1, .int (zi a1)), (2, .int (zi v2))]) [1, 2, 0] rfl rfl (by decide) d7_lengthIf_62 ?_
      refine g_aload_n hK 0 rfl rfl d7_lengthIf_63 ?_
      refine g_iload_n hK 2 rfl rfl d7_lengthIf_64 ?_
      refine g_callVco hK (mk := mkZ) (rm := rm7_isTyped) (cb := 0) (sb := 0) (As := [.int (zi v2)]) (b := 292) (n := 1) (c7_isTyped K.2.1 hK.2.2.2.2.2.2.2.2.1 Z v2 m4 hv2) rfl (ci := 7) rfl (by decide) kc_292 q_1483 q_1485 qs_7_isTyped q_7 q_1486 rfl (by decide +kernel) (by decide) (Nat.le_of_ble_eq_true rfl) (Nat.le_of_ble_eq_true rfl) (Nat.le_of_ble_eq_true rfl) rfl d7_lengthIf_65 (fun r4 hr4 hpr4 => ?_)
      refine g_if_eq hK (zb_r r4) (tgt := 87) (by decide) d7_lengthIf_68 (fun _ => ?_) (fun _ => ?_)
      · refine g_iconst hK d7_lengthIf_87 zki0 ?_
        exact p7_lengthIf_88 hcx a1 ha1  v2 0 m4 hv2 zc0
      · refine g_aload_n hK 0 rfl rfl d7_lengthIf_71 ?_
        refine g_getR hK zfin_7 (fa_7_1 kc_292) q_1198 (r := 293) (by decide +kernel) d7_lengthIf_72 ?_
        refine g_aload_n hK 0 rfl rfl d7_lengthIf_75 ?_
        refine g_getI hK zfin_7 (fa_7_22 kc_292) q_1219 d7_lengthIf_76 (fun hf2 => ?_)
        refine g_iconst hK d7_lengthIf_79 zki3 ?_
        refine g_iadd hK d7_lengthIf_80 (fun v3 hv3 => ?_)
        refine g_iload_n hK 2 rfl rfl d7_lengthIf_81 ?_
        refine g_iadd hK d7_lengthIf_82 (fun v4 hv4 => ?_)
        refine g_iald hK kc_293 d7_lengthIf_83 (fun _ hl2 => ?_)
        refine g_goto hK (tgt := 88) (by decide) d7_lengthIf_84 ?_
        exact p7_lengthIf_88 hcx a1 ha1  v2 (zI m4 293 (zx v4)) m4 hv2 hl2
    · refine g_iconst hK d7_lengthIf_36 zki0 ?_
      exact g_iret hK zc0 rfl rfl d7_lengthIf_37
set_option maxRecDepth 20000 in
theorem c7_lengthIf (l : Launch) (hst : l.stackTraces = false) (Z : zZ) (a1 : Int) (μ : zM) (ha1 : zr a1) : ∀ x, f7_lengthIf a1 μ = some x → zCt l Z (zΩ Z) y7_lengthIf (zws (.code y7_lengthIf b7_lengthIf 5 (some .int))) rm7_lengthIf [.ref (Z.2.2.1 + 292), .int (zi a1)] μ (ze2 mkI x) := by
  intro x h
  refine zCt.of (enc := (ze2 mkI)) h (by decide) hst (Nat.le_of_ble_eq_true rfl) (fun K hK0 hex hl _ => ?_)
  subst hl
  have hcx : zOk K Z b7_lengthIf RX7 5 (some .int) 44 1136 0 0 ∧ ∀ x ∈ K.2.2.2.2.2.2.2.2.2.exceptionTable.toList, False := ⟨hK0, hex⟩
  have hK := hcx.1
  show zG K Z (zΩ Z) (zF K Z (zΩ Z) (ze2 mkI)) 0 0 0 [(0, .ref (Z.2.2.1 + 292)), (1, .int (zi a1))] [] μ (f7_lengthIf a1 μ)
  unfold f7_lengthIf
  refine g_aload_n hK 0 rfl rfl d7_lengthIf_0 ?_
  refine g_iconst hK d7_lengthIf_1 zki0 ?_
  refine g_putI hK zfin_7 (fa_7_0 kc_292) q_1197 zc0 rfl (tyX7_ok 0 (by decide)) tyX7 tyX7_ok nmX7 d7_lengthIf_2 ?_
  refine g_ltM (fun m1 => ?_)
  refine g_aload_n hK 0 rfl rfl d7_lengthIf_5 ?_
  refine g_iload_n hK 1 rfl rfl d7_lengthIf_6 ?_
  refine g_iconst hK d7_lengthIf_7 zki1 ?_
  refine g_bipush hK d7_lengthIf_8 zkb20 ?_
  refine g_callSco hK (mk := mkZ) (rm := rm7_within) (cb := 0) (sb := 0) (As := [.int (zi a1), .int (zi 1), .int (zi 20)]) (n := 3) (c7_within K.2.1 hK.2.2.2.2.2.2.2.2.1 Z a1 1 20 m1 ha1 zc1 zc20) q_1344 q_1345 q_7 q_1346 rfl (by decide +kernel) (by decide) (Nat.le_of_ble_eq_true rfl) (Nat.le_of_ble_eq_true rfl) (Nat.le_of_ble_eq_true rfl) rfl d7_lengthIf_10 (fun r1 hr1 hpr1 => ?_)
  refine g_if_ne hK (zb_r r1) (tgt := 20) (by decide) d7_lengthIf_13 (fun _ => ?_) (fun _ => ?_)
  · refine g_iconst hK d7_lengthIf_20 zki0 ?_
    exact p7_lengthIf_21 hcx a1 ha1  0 m1 zc0
  · refine g_iconst hK d7_lengthIf_16 zki1 ?_
    refine g_goto hK (tgt := 21) (by decide) d7_lengthIf_17 ?_
    exact p7_lengthIf_21 hcx a1 ha1  1 m1 zc1
set_option maxRecDepth 20000 in
theorem p7_wouldHide_18 {K : zK} {Z : zZ} (hcx : zOk K Z b7_wouldHide RX7 3 (some .int) 5 115 0 0 ∧ ∀ x ∈ K.2.2.2.2.2.2.2.2.2.exceptionTable.toList, False) (a1 : Int) (ha1 : zr a1) (s0 : Int) (μ : zM) (hs0 : zr s0) : zG K Z (zΩ Z) (zF K Z (zΩ Z) (ze2 mkI)) 0 0 18 [(0, .ref (Z.2.2.1 + 292)), (1, .int (zi a1))] [.int (zi s0), .ref (Z.2.2.1 + 292)] μ (f7_wouldHide_18 a1 s0 μ) := by
  obtain ⟨hK, hex⟩ := id hcx
  unfold f7_wouldHide_18
  refine g_iconst hK d7_wouldHide_18 zki1 ?_
  refine g_callVcl hK (mk := mkZ) (rm := rm7_throwsIf) (cb := 0) (sb := 0) (As := [.int (zi s0), .int (zi 1)]) (b := 292) (n := 2) (c7_throwsIf K.2.1 hK.2.2.2.2.2.2.2.2.1 Z s0 1 μ hs0 zc1) rfl (ci := 7) rfl (by decide) kc_292 q_1317 q_1319 qs_7_throwsIf q_7 q_1320 rfl (by decide +kernel) (by decide) (Nat.le_of_ble_eq_true rfl) (Nat.le_of_ble_eq_true rfl) (Nat.le_of_ble_eq_true rfl) rfl d7_wouldHide_19 (fun r2 m2 hr2 hpr2 => ?_)
  refine g_if_ne hK (zb_r r2) (tgt := 33) (by decide) d7_wouldHide_22 (fun _ => ?_) (fun _ => ?_)
  · refine g_iconst hK d7_wouldHide_33 zki0 ?_
    exact g_iret hK zc0 rfl rfl d7_wouldHide_34
  · refine g_aload_n hK 0 rfl rfl d7_wouldHide_25 ?_
    refine g_iconst hK d7_wouldHide_26 zki2 ?_
    refine g_callVcl hK (mk := mkZ) (rm := rm7_noSession) (cb := 0) (sb := 0) (As := [.int (zi 2)]) (b := 292) (n := 1) (c7_noSession K.2.1 hK.2.2.2.2.2.2.2.2.1 Z 2 m2 zc2) rfl (ci := 7) rfl (by decide) kc_292 q_1518 q_1520 qs_7_noSession q_7 q_1521 rfl (by decide +kernel) (by decide) (Nat.le_of_ble_eq_true rfl) (Nat.le_of_ble_eq_true rfl) (Nat.le_of_ble_eq_true rfl) rfl d7_wouldHide_27 (fun r3 m3 hr3 hpr3 => ?_)
    refine g_if_eq hK (zb_r r3) (tgt := 35) (by decide) d7_wouldHide_30 (fun _ => ?_) (fun _ => ?_)
    · refine g_aload_n hK 0 rfl rfl d7_wouldHide_35 ?_
      refine g_iload_n hK 1 rfl rfl d7_wouldHide_36 ?_
      refine g_callVco hK (mk := mkZ) (rm := rm7_isTyped) (cb := 0) (sb := 0) (As := [.int (zi a1)]) (b := 292) (n := 1) (c7_isTyped K.2.1 hK.2.2.2.2.2.2.2.2.1 Z a1 m3 ha1) rfl (ci := 7) rfl (by decide) kc_292 q_1483 q_1485 qs_7_isTyped q_7 q_1486 rfl (by decide +kernel) (by decide) (Nat.le_of_ble_eq_true rfl) (Nat.le_of_ble_eq_true rfl) (Nat.le_of_ble_eq_true rfl) rfl d7_wouldHide_37 (fun r4 hr4 hpr4 => ?_)
      refine g_if_eq hK (zb_r r4) (tgt := 45) (by decide) d7_wouldHide_40 (fun _ => ?_) (fun _ => ?_)
      · refine g_aload_n hK 0 rfl rfl d7_wouldHide_45 ?_
        refine g_getI hK zfin_7 (fa_7_27 kc_292) q_1224 d7_wouldHide_46 (fun hf1 => ?_)
        refine g_ltI hf1 (fun v1 hv1 => ?_)
        refine g_istore_n hK (lv2 := [(0, .ref (Z.2.2.1 + 292)), (1, .int (zi a1)), (2, .int (zi v1))]) [1, 2, 0] rfl rfl (by decide) d7_wouldHide_49 ?_
        refine g_aload_n hK 0 rfl rfl d7_wouldHide_50 ?_
        refine g_getR hK zfin_7 (fa_7_1 kc_292) q_1198 (r := 293) (by decide +kernel) d7_wouldHide_51 ?_
        refine g_iconst hK d7_wouldHide_54 zki0 ?_
        refine g_aload_n hK 0 rfl rfl d7_wouldHide_55 ?_
        refine g_getR hK zfin_7 (fa_7_2 kc_292) q_1199 (r := 294) (by decide +kernel) d7_wouldHide_56 ?_
        refine g_iconst hK d7_wouldHide_59 zki0 ?_
        refine g_callScm hK (rm := rm7_copies) (cb := 0) (sb := 0) (As := [.ref (Z.2.2.1 + 293), .int (zi 0), .ref (Z.2.2.1 + 294), .int (zi 0)]) (n := 4) (c7_copies K.2.1 hK.2.2.2.2.2.2.2.2.1 Z 293 0 294 0 m3 kc_293 zc0 kc_294 zc0) q_1633 q_1634 q_7 q_1635 rfl (by decide +kernel) (by decide) (Nat.le_of_ble_eq_true rfl) (Nat.le_of_ble_eq_true rfl) (Nat.le_of_ble_eq_true rfl) rfl d7_wouldHide_60 (fun m4 hm4 => ?_)
        refine g_aload_n hK 0 rfl rfl d7_wouldHide_63 ?_
        refine g_getR hK zfin_7 (fa_7_1 kc_292) q_1198 (r := 293) (by decide +kernel) d7_wouldHide_64 ?_
        refine g_aload_n hK 0 rfl rfl d7_wouldHide_67 ?_
        refine g_getI hK zfin_7 (fa_7_22 kc_292) q_1219 d7_wouldHide_68 (fun hf2 => ?_)
        refine g_iconst hK d7_wouldHide_71 zki2 ?_
        refine g_iadd hK d7_wouldHide_72 (fun v2 hv2 => ?_)
        refine g_dup2 hK d7_wouldHide_73 rfl rfl ?_
        refine g_iald hK kc_293 d7_wouldHide_74 (fun _ hl1 => ?_)
        refine g_iconst hK d7_wouldHide_75 zki1 ?_
        refine g_iload_n hK 1 rfl rfl d7_wouldHide_76 ?_
        refine g_ishl hK d7_wouldHide_77 (fun v3 hv3 => ?_)
        refine g_ior hK d7_wouldHide_78 (fun v4 hv4 => ?_)
        refine g_iast hK hv4 kc_293 d7_wouldHide_79 (fun _ => ?_)
        refine g_ltM (fun m5 => ?_)
        refine g_aload_n hK 0 rfl rfl d7_wouldHide_80 ?_
        refine g_callVcm hK (rm := rm7_shows) (cb := 0) (sb := 0) (As := []) (b := 292) (n := 0) (c7_shows K.2.1 hK.2.2.2.2.2.2.2.2.1 Z  m5 ) rfl (ci := 7) rfl (by decide) kc_292 q_1471 q_1473 qs_7_shows q_7 q_1474 rfl (by decide +kernel) (by decide) (Nat.le_of_ble_eq_true rfl) (Nat.le_of_ble_eq_true rfl) (Nat.le_of_ble_eq_true rfl) rfl d7_wouldHide_81 (fun m6 hm6 => ?_)
        refine g_aload_n hK 0 rfl rfl d7_wouldHide_84 ?_
        refine g_iload_n hK 2 rfl rfl d7_wouldHide_85 ?_
        refine g_aload_n hK 0 rfl rfl d7_wouldHide_86 ?_
        refine g_getI hK zfin_7 (fa_7_27 kc_292) q_1224 d7_wouldHide_87 (fun hf3 => ?_)
        refine g_iconst hK d7_wouldHide_90 zkim1 ?_
        refine g_ixor hK d7_wouldHide_91 (fun v5 hv5 => ?_)
        refine g_iand hK d7_wouldHide_92 (fun v6 hv6 => ?_)
        refine g_iconst hK d7_wouldHide_93 zki1 ?_
        refine g_iload_n hK 1 rfl rfl d7_wouldHide_94 ?_
        refine g_ishl hK d7_wouldHide_95 (fun v7 hv7 => ?_)
        refine g_iconst hK d7_wouldHide_96 zkim1 ?_
        refine g_ixor hK d7_wouldHide_97 (fun v8 hv8 => ?_)
        refine g_iand hK d7_wouldHide_98 (fun v9 hv9 => ?_)
        refine g_callVcl hK (mk := mkI) (rm := rm7_back) (cb := 0) (sb := 0) (As := [.int (zi v9)]) (b := 292) (n := 1) (c7_back K.2.1 hK.2.2.2.2.2.2.2.2.1 Z v9 m6 hv9) rfl (ci := 7) rfl (by decide) kc_292 q_1636 q_1638 qs_7_back q_7 q_1639 rfl (by decide +kernel) (by decide) (Nat.le_of_ble_eq_true rfl) (Nat.le_of_ble_eq_true rfl) (Nat.le_of_ble_eq_true rfl) rfl d7_wouldHide_99 (fun r5 m7 hr5 hpr5 => ?_)
        exact g_iret hK hpr5 rfl rfl d7_wouldHide_102
      · refine g_iconst hK d7_wouldHide_43 zki0 ?_
        exact g_iret hK zc0 rfl rfl d7_wouldHide_44
    · refine g_iconst hK d7_wouldHide_33 zki0 ?_
      exact g_iret hK zc0 rfl rfl d7_wouldHide_34
set_option maxRecDepth 20000 in
theorem c7_wouldHide (l : Launch) (hst : l.stackTraces = false) (Z : zZ) (a1 : Int) (μ : zM) (ha1 : zr a1) : ∀ x, f7_wouldHide a1 μ = some x → zCt l Z (zΩ Z) y7_wouldHide (zws (.code y7_wouldHide b7_wouldHide 3 (some .int))) rm7_wouldHide [.ref (Z.2.2.1 + 292), .int (zi a1)] μ (ze2 mkI x) := by
  intro x h
  refine zCt.of (enc := (ze2 mkI)) h (by decide) hst (Nat.le_of_ble_eq_true rfl) (fun K hK0 hex hl _ => ?_)
  subst hl
  have hcx : zOk K Z b7_wouldHide RX7 3 (some .int) 5 115 0 0 ∧ ∀ x ∈ K.2.2.2.2.2.2.2.2.2.exceptionTable.toList, False := ⟨hK0, hex⟩
  have hK := hcx.1
  show zG K Z (zΩ Z) (zF K Z (zΩ Z) (ze2 mkI)) 0 0 0 [(0, .ref (Z.2.2.1 + 292)), (1, .int (zi a1))] [] μ (f7_wouldHide a1 μ)
  unfold f7_wouldHide
  refine g_aload_n hK 0 rfl rfl d7_wouldHide_0 ?_
  refine g_iconst hK d7_wouldHide_1 zki0 ?_
  refine g_putI hK zfin_7 (fa_7_0 kc_292) q_1197 zc0 rfl (tyX7_ok 0 (by decide)) tyX7 tyX7_ok nmX7 d7_wouldHide_2 ?_
  refine g_ltM (fun m1 => ?_)
  refine g_aload_n hK 0 rfl rfl d7_wouldHide_5 ?_
  refine g_iload_n hK 1 rfl rfl d7_wouldHide_6 ?_
  refine g_callSco hK (mk := mkZ) (rm := rm7_isField) (cb := 0) (sb := 0) (As := [.int (zi a1)]) (n := 1) (c7_isField K.2.1 hK.2.2.2.2.2.2.2.2.1 Z a1 m1 ha1) q_1456 q_1457 q_7 q_1458 rfl (by decide +kernel) (by decide) (Nat.le_of_ble_eq_true rfl) (Nat.le_of_ble_eq_true rfl) (Nat.le_of_ble_eq_true rfl) rfl d7_wouldHide_7 (fun r1 hr1 hpr1 => ?_)
  refine g_if_ne hK (zb_r r1) (tgt := 17) (by decide) d7_wouldHide_10 (fun _ => ?_) (fun _ => ?_)
  · refine g_iconst hK d7_wouldHide_17 zki0 ?_
    exact p7_wouldHide_18 hcx a1 ha1  0 m1 zc0
  · refine g_iconst hK d7_wouldHide_13 zki1 ?_
    refine g_goto hK (tgt := 18) (by decide) d7_wouldHide_14 ?_
    exact p7_wouldHide_18 hcx a1 ha1  1 m1 zc1
set_option maxRecDepth 20000 in
theorem c7_lengthOf (l : Launch) (hst : l.stackTraces = false) (Z : zZ) (a1 : Int) (μ : zM) (ha1 : zr a1) : ∀ x, f7_lengthOf a1 μ = some x → zCt l Z (zΩ Z) y7_lengthOf (zws (.code y7_lengthOf b7_lengthOf 2 (some .int))) rm7_lengthOf [.ref (Z.2.2.1 + 292), .int (zi a1)] μ (ze2 mkI x) := by
  intro x h
  refine zCt.of (enc := (ze2 mkI)) h (by decide) hst (Nat.le_of_ble_eq_true rfl) (fun K hK0 hex hl _ => ?_)
  subst hl
  have hcx : zOk K Z b7_lengthOf RX7 2 (some .int) 44 1136 0 0 ∧ ∀ x ∈ K.2.2.2.2.2.2.2.2.2.exceptionTable.toList, False := ⟨hK0, hex⟩
  have hK := hcx.1
  show zG K Z (zΩ Z) (zF K Z (zΩ Z) (ze2 mkI)) 0 0 0 [(0, .ref (Z.2.2.1 + 292)), (1, .int (zi a1))] [] μ (f7_lengthOf a1 μ)
  unfold f7_lengthOf
  refine g_aload_n hK 0 rfl rfl d7_lengthOf_0 ?_
  refine g_iconst hK d7_lengthOf_1 zki0 ?_
  refine g_putI hK zfin_7 (fa_7_0 kc_292) q_1197 zc0 rfl (tyX7_ok 0 (by decide)) tyX7 tyX7_ok nmX7 d7_lengthOf_2 ?_
  refine g_ltM (fun m1 => ?_)
  refine g_aload_n hK 0 rfl rfl d7_lengthOf_5 ?_
  refine g_iload_n hK 1 rfl rfl d7_lengthOf_6 ?_
  refine g_callVcl hK (mk := mkZ) (rm := rm7_noSnippet) (cb := 0) (sb := 0) (As := [.int (zi a1)]) (b := 292) (n := 1) (c7_noSnippet K.2.1 hK.2.2.2.2.2.2.2.2.1 Z a1 m1 ha1) rfl (ci := 7) rfl (by decide) kc_292 q_1431 q_1433 qs_7_noSnippet q_7 q_1434 rfl (by decide +kernel) (by decide) (Nat.le_of_ble_eq_true rfl) (Nat.le_of_ble_eq_true rfl) (Nat.le_of_ble_eq_true rfl) rfl d7_lengthOf_7 (fun r1 m2 hr1 hpr1 => ?_)
  refine g_if_eq hK (zb_r r1) (tgt := 15) (by decide) d7_lengthOf_10 (fun _ => ?_) (fun _ => ?_)
  · refine g_aload_n hK 0 rfl rfl d7_lengthOf_15 ?_
    refine g_iload_n hK 1 rfl rfl d7_lengthOf_16 ?_
    refine g_callVcm hK (rm := rm7_laysBare) (cb := 0) (sb := 0) (As := [.int (zi a1)]) (b := 292) (n := 1) (c7_laysBare K.2.1 hK.2.2.2.2.2.2.2.2.1 Z a1 m2 ha1) rfl (ci := 7) rfl (by decide) kc_292 q_1648 q_1650 qs_7_laysBare q_7 q_1651 rfl (by decide +kernel) (by decide) (Nat.le_of_ble_eq_true rfl) (Nat.le_of_ble_eq_true rfl) (Nat.le_of_ble_eq_true rfl) rfl d7_lengthOf_17 (fun m3 hm3 => ?_)
    refine g_aload_n hK 0 rfl rfl d7_lengthOf_20 ?_
    refine g_callVcl hK (mk := mkI) (rm := rm7_textLength) (cb := 0) (sb := 0) (As := []) (b := 292) (n := 0) (c7_textLength K.2.1 hK.2.2.2.2.2.2.2.2.1 Z  m3 ) rfl (ci := 7) rfl (by decide) kc_292 q_1487 q_1489 qs_7_textLength q_7 q_1490 rfl (by decide +kernel) (by decide) (Nat.le_of_ble_eq_true rfl) (Nat.le_of_ble_eq_true rfl) (Nat.le_of_ble_eq_true rfl) rfl d7_lengthOf_21 (fun r2 m4 hr2 hpr2 => ?_)
    exact g_iret hK hpr2 rfl rfl d7_lengthOf_24
  · refine g_iconst hK d7_lengthOf_13 zki0 ?_
    exact g_iret hK zc0 rfl rfl d7_lengthOf_14
set_option maxRecDepth 20000 in
theorem c7_begins (l : Launch) (hst : l.stackTraces = false) (Z : zZ) (μ : zM) : ∀ x, f7_begins μ = some x → zCt l Z (zΩ Z) y7_begins (zws (.code y7_begins b7_begins 1 (none))) rm7_begins [.ref (Z.2.2.1 + 292)] μ (zeM x) := by
  intro x h
  refine zCt.of (enc := zeM) h (by decide) hst (Nat.le_of_ble_eq_true rfl) (fun K hK0 hex hl _ => ?_)
  subst hl
  have hcx : zOk K Z b7_begins RX7 1 (none) 1 32 0 0 ∧ ∀ x ∈ K.2.2.2.2.2.2.2.2.2.exceptionTable.toList, False := ⟨hK0, hex⟩
  have hK := hcx.1
  show zG K Z (zΩ Z) (zF K Z (zΩ Z) zeM) 0 0 0 [(0, .ref (Z.2.2.1 + 292))] [] μ (f7_begins μ)
  unfold f7_begins
  refine g_aload_n hK 0 rfl rfl d7_begins_0 ?_
  refine g_getR hK zfin_7 (fa_7_1 kc_292) q_1198 (r := 293) (by decide +kernel) d7_begins_1 ?_
  refine g_iconst hK d7_begins_4 zki0 ?_
  refine g_aload_n hK 0 rfl rfl d7_begins_5 ?_
  refine g_getR hK zfin_7 (fa_7_2 kc_292) q_1199 (r := 294) (by decide +kernel) d7_begins_6 ?_
  refine g_iconst hK d7_begins_9 zki0 ?_
  refine g_callScm hK (rm := rm7_copies) (cb := 0) (sb := 0) (As := [.ref (Z.2.2.1 + 293), .int (zi 0), .ref (Z.2.2.1 + 294), .int (zi 0)]) (n := 4) (c7_copies K.2.1 hK.2.2.2.2.2.2.2.2.1 Z 293 0 294 0 μ kc_293 zc0 kc_294 zc0) q_1633 q_1634 q_7 q_1635 rfl (by decide +kernel) (by decide) (Nat.le_of_ble_eq_true rfl) (Nat.le_of_ble_eq_true rfl) (Nat.le_of_ble_eq_true rfl) rfl d7_begins_10 (fun m1 hm1 => ?_)
  exact g_vret hK rfl rfl d7_begins_13
set_option maxRecDepth 20000 in
theorem p7_done_58 {K : zK} {Z : zZ} (hcx : zOk K Z b7_done RX7 3 (some .int) 1 32 0 0 ∧ ∀ x ∈ K.2.2.2.2.2.2.2.2.2.exceptionTable.toList, False) (a1 : Int) (ha1 : zr a1) (μ : zM) : zG K Z (zΩ Z) (zF K Z (zΩ Z) (ze2 mkI)) 0 0 58 [(0, .ref (Z.2.2.1 + 292)), (1, .int (zi a1))] [] μ (f7_done_58 a1 μ) := by
  obtain ⟨hK, hex⟩ := id hcx
  unfold f7_done_58
  refine g_aload_n hK 0 rfl rfl d7_done_58 ?_
  refine g_getR hK zfin_7 (fa_7_2 kc_292) q_1199 (r := 294) (by decide +kernel) d7_done_59 ?_
  refine g_iconst hK d7_done_62 zki0 ?_
  refine g_aload_n hK 0 rfl rfl d7_done_63 ?_
  refine g_getR hK zfin_7 (fa_7_3 kc_292) q_1200 (r := 295) (by decide +kernel) d7_done_64 ?_
  refine g_sipush hK d7_done_67 zks2256 ?_
  refine g_aload_n hK 0 rfl rfl d7_done_70 ?_
  refine g_getI hK zfin_7 (fa_7_7 kc_292) q_1204 d7_done_71 (fun hf3 => ?_)
  refine g_imul hK d7_done_74 (fun v2 hv2 => ?_)
  refine g_callScm hK (rm := rm7_copies) (cb := 0) (sb := 0) (As := [.ref (Z.2.2.1 + 294), .int (zi 0), .ref (Z.2.2.1 + 295), .int (zi v2)]) (n := 4) (c7_copies K.2.1 hK.2.2.2.2.2.2.2.2.1 Z 294 0 295 v2 μ kc_294 zc0 kc_295 hv2) q_1633 q_1634 q_7 q_1635 rfl (by decide +kernel) (by decide) (Nat.le_of_ble_eq_true rfl) (Nat.le_of_ble_eq_true rfl) (Nat.le_of_ble_eq_true rfl) rfl d7_done_75 (fun m2 hm2 => ?_)
  refine g_aload_n hK 0 rfl rfl d7_done_78 ?_
  refine g_dup hK d7_done_79 rfl ?_
  refine g_getI hK zfin_7 (fa_7_7 kc_292) q_1204 d7_done_80 (fun hf4 => ?_)
  refine g_iconst hK d7_done_83 zki1 ?_
  refine g_iadd hK d7_done_84 (fun v3 hv3 => ?_)
  refine g_putI hK zfin_7 (fa_7_7 kc_292) q_1204 hv3 rfl (tyX7_ok 7 (by decide)) tyX7 tyX7_ok nmX7 d7_done_85 ?_
  refine g_ltM (fun m3 => ?_)
  refine g_aload_n hK 0 rfl rfl d7_done_88 ?_
  refine g_getR hK zfin_7 (fa_7_6 kc_292) q_1203 (r := 298) (by decide +kernel) d7_done_89 ?_
  refine g_iconst hK d7_done_92 zki0 ?_
  refine g_dup2 hK d7_done_93 rfl rfl ?_
  refine g_iald hK kc_298 d7_done_94 (fun _ hl1 => ?_)
  refine g_iconst hK d7_done_95 zki1 ?_
  refine g_iadd hK d7_done_96 (fun v4 hv4 => ?_)
  refine g_iast hK hv4 kc_298 d7_done_97 (fun _ => ?_)
  refine g_ltM (fun m4 => ?_)
  refine g_iload_n hK 1 rfl rfl d7_done_98 ?_
  exact g_iret hK ha1 rfl rfl d7_done_99
set_option maxRecDepth 20000 in
theorem p7_done_21 {K : zK} {Z : zZ} (hcx : zOk K Z b7_done RX7 3 (some .int) 1 32 0 0 ∧ ∀ x ∈ K.2.2.2.2.2.2.2.2.2.exceptionTable.toList, False) (a1 : Int) (ha1 : zr a1) (k21 : Int → zM → Option (Int × zM)) (hk21 : ∀ (x2 : Int) (μ : zM) (hx2 : zr x2), zG K Z (zΩ Z) (zF K Z (zΩ Z) (ze2 mkI)) 0 0 21 [(0, .ref (Z.2.2.1 + 292)), (1, .int (zi a1)), (2, .int (zi x2))] [] μ (k21 x2 μ)) (x2 : Int) (μ : zM) (hx2 : zr x2) : zG K Z (zΩ Z) (zF K Z (zΩ Z) (ze2 mkI)) 0 0 21 [(0, .ref (Z.2.2.1 + 292)), (1, .int (zi a1)), (2, .int (zi x2))] [] μ (f7_done_21 a1 k21 x2 μ) := by
  obtain ⟨hK, hex⟩ := id hcx
  unfold f7_done_21
  refine g_iload_n hK 2 rfl rfl d7_done_21 ?_
  refine g_aload_n hK 0 rfl rfl d7_done_22 ?_
  refine g_getI hK zfin_7 (fa_7_7 kc_292) q_1204 d7_done_23 (fun hf5 => ?_)
  refine g_icmp_ge hK hx2 hf5 (tgt := 58) (by decide) d7_done_26 (fun _ => ?_) (fun _ => ?_)
  · refine g_lv (lv2 := [(0, .ref (Z.2.2.1 + 292)), (1, .int (zi a1))]) [0, 1] rfl ?_
    exact p7_done_58 hcx a1 ha1   μ 
  · refine g_aload_n hK 0 rfl rfl d7_done_29 ?_
    refine g_getR hK zfin_7 (fa_7_3 kc_292) q_1200 (r := 295) (by decide +kernel) d7_done_30 ?_
    refine g_sipush hK d7_done_33 zks2256 ?_
    refine g_iload_n hK 2 rfl rfl d7_done_36 ?_
    refine g_iconst hK d7_done_37 zki1 ?_
    refine g_iadd hK d7_done_38 (fun v5 hv5 => ?_)
    refine g_imul hK d7_done_39 (fun v6 hv6 => ?_)
    refine g_aload_n hK 0 rfl rfl d7_done_40 ?_
    refine g_getR hK zfin_7 (fa_7_3 kc_292) q_1200 (r := 295) (by decide +kernel) d7_done_41 ?_
    refine g_sipush hK d7_done_44 zks2256 ?_
    refine g_iload_n hK 2 rfl rfl d7_done_47 ?_
    refine g_imul hK d7_done_48 (fun v7 hv7 => ?_)
    refine g_callScm hK (rm := rm7_copies) (cb := 0) (sb := 0) (As := [.ref (Z.2.2.1 + 295), .int (zi v6), .ref (Z.2.2.1 + 295), .int (zi v7)]) (n := 4) (c7_copies K.2.1 hK.2.2.2.2.2.2.2.2.1 Z 295 v6 295 v7 μ kc_295 hv6 kc_295 hv7) q_1633 q_1634 q_7 q_1635 rfl (by decide +kernel) (by decide) (Nat.le_of_ble_eq_true rfl) (Nat.le_of_ble_eq_true rfl) (Nat.le_of_ble_eq_true rfl) rfl d7_done_49 (fun m5 hm5 => ?_)
    refine g_iinc hK (lv2 := fun v8 => [(0, .ref (Z.2.2.1 + 292)), (1, .int (zi a1)), (2, .int (zi v8))]) 2 rfl [1, 2, 0] (fun _ => rfl) (by decide) d7_done_52 (fun v8 hv8 => ?_)
    refine g_goto hK (tgt := 21) (by decide) d7_done_55 ?_
    exact hk21 v8 m5 hv8
set_option maxRecDepth 20000 in
theorem l7_done_21 {K : zK} {Z : zZ} (hcx : zOk K Z b7_done RX7 3 (some .int) 1 32 0 0 ∧ ∀ x ∈ K.2.2.2.2.2.2.2.2.2.exceptionTable.toList, False) (a1 : Int) (ha1 : zr a1) : ∀ (i9 : Nat) (x2 : Int) (μ : zM) (hx2 : zr x2), zG K Z (zΩ Z) (zF K Z (zΩ Z) (ze2 mkI)) 0 0 21 [(0, .ref (Z.2.2.1 + 292)), (1, .int (zi a1)), (2, .int (zi x2))] [] μ (zfx (f7_done_21 a1) (fun _ _ => none) i9 x2 μ) := by
  intro i9
  induction i9 with
  | zero => intro x2 μ hx2; exact g_none
  | succ i9 ih => intro x2 μ hx2; exact p7_done_21 hcx a1 ha1  (zfx (f7_done_21 a1) (fun _ _ => none) i9) ih x2 μ hx2
set_option maxRecDepth 20000 in
theorem c7_done (l : Launch) (hst : l.stackTraces = false) (Z : zZ) (a1 : Int) (μ : zM) (ha1 : zr a1) : ∀ x, f7_done a1 μ = some x → zCt l Z (zΩ Z) y7_done (zws (.code y7_done b7_done 3 (some .int))) rm7_done [.ref (Z.2.2.1 + 292), .int (zi a1)] μ (ze2 mkI x) := by
  intro x h
  refine zCt.of (enc := (ze2 mkI)) h (by decide) hst (Nat.le_of_ble_eq_true rfl) (fun K hK0 hex hl _ => ?_)
  subst hl
  have hcx : zOk K Z b7_done RX7 3 (some .int) 1 32 0 0 ∧ ∀ x ∈ K.2.2.2.2.2.2.2.2.2.exceptionTable.toList, False := ⟨hK0, hex⟩
  have hK := hcx.1
  show zG K Z (zΩ Z) (zF K Z (zΩ Z) (ze2 mkI)) 0 0 0 [(0, .ref (Z.2.2.1 + 292)), (1, .int (zi a1))] [] μ (f7_done a1 μ)
  unfold f7_done
  refine g_aload_n hK 0 rfl rfl d7_done_0 ?_
  refine g_getI hK zfin_7 (fa_7_7 kc_292) q_1204 d7_done_1 (fun hf1 => ?_)
  refine g_bipush hK d7_done_4 zkb8 ?_
  refine g_icmp_ne hK hf1 zc8 (tgt := 58) (by decide) d7_done_6 (fun _ => ?_) (fun _ => ?_)
  · exact p7_done_58 hcx a1 ha1   μ 
  · refine g_aload_n hK 0 rfl rfl d7_done_9 ?_
    refine g_dup hK d7_done_10 rfl ?_
    refine g_getI hK zfin_7 (fa_7_7 kc_292) q_1204 d7_done_11 (fun hf2 => ?_)
    refine g_iconst hK d7_done_14 zki1 ?_
    refine g_isub hK d7_done_15 (fun v1 hv1 => ?_)
    refine g_putI hK zfin_7 (fa_7_7 kc_292) q_1204 hv1 rfl (tyX7_ok 7 (by decide)) tyX7 tyX7_ok nmX7 d7_done_16 ?_
    refine g_ltM (fun m1 => ?_)
    refine g_iconst hK d7_done_19 zki0 ?_
    refine g_istore_n hK (lv2 := [(0, .ref (Z.2.2.1 + 292)), (1, .int (zi a1)), (2, .int (zi 0))]) [1, 2, 0] rfl rfl (by decide) d7_done_20 ?_
    exact l7_done_21 hcx a1 ha1  zFu 0 m1 zc0
set_option maxRecDepth 20000 in
theorem c7_refused (l : Launch) (hst : l.stackTraces = false) (Z : zZ) (a1 : Int) (μ : zM) (ha1 : zr a1) : ∀ x, f7_refused a1 μ = some x → zCt l Z (zΩ Z) y7_refused (zws (.code y7_refused b7_refused 2 (some .int))) rm7_refused [.ref (Z.2.2.1 + 292), .int (zi a1)] μ (ze2 mkI x) := by
  intro x h
  refine zCt.of (enc := (ze2 mkI)) h (by decide) hst (Nat.le_of_ble_eq_true rfl) (fun K hK0 hex hl _ => ?_)
  subst hl
  have hcx : zOk K Z b7_refused RX7 2 (some .int) 1 32 0 0 ∧ ∀ x ∈ K.2.2.2.2.2.2.2.2.2.exceptionTable.toList, False := ⟨hK0, hex⟩
  have hK := hcx.1
  show zG K Z (zΩ Z) (zF K Z (zΩ Z) (ze2 mkI)) 0 0 0 [(0, .ref (Z.2.2.1 + 292)), (1, .int (zi a1))] [] μ (f7_refused a1 μ)
  unfold f7_refused
  refine g_aload_n hK 0 rfl rfl d7_refused_0 ?_
  refine g_getR hK zfin_7 (fa_7_6 kc_292) q_1203 (r := 298) (by decide +kernel) d7_refused_1 ?_
  refine g_iload_n hK 1 rfl rfl d7_refused_4 ?_
  refine g_dup2 hK d7_refused_5 rfl rfl ?_
  refine g_iald hK kc_298 d7_refused_6 (fun _ hl1 => ?_)
  refine g_iconst hK d7_refused_7 zki1 ?_
  refine g_iadd hK d7_refused_8 (fun v1 hv1 => ?_)
  refine g_iast hK hv1 kc_298 d7_refused_9 (fun _ => ?_)
  refine g_ltM (fun m1 => ?_)
  refine g_aload_n hK 0 rfl rfl d7_refused_10 ?_
  refine g_getR hK zfin_7 (fa_7_2 kc_292) q_1199 (r := 294) (by decide +kernel) d7_refused_11 ?_
  refine g_iconst hK d7_refused_14 zki0 ?_
  refine g_aload_n hK 0 rfl rfl d7_refused_15 ?_
  refine g_getR hK zfin_7 (fa_7_1 kc_292) q_1198 (r := 293) (by decide +kernel) d7_refused_16 ?_
  refine g_iconst hK d7_refused_19 zki0 ?_
  refine g_callScm hK (rm := rm7_copies) (cb := 0) (sb := 0) (As := [.ref (Z.2.2.1 + 294), .int (zi 0), .ref (Z.2.2.1 + 293), .int (zi 0)]) (n := 4) (c7_copies K.2.1 hK.2.2.2.2.2.2.2.2.1 Z 294 0 293 0 m1 kc_294 zc0 kc_293 zc0) q_1633 q_1634 q_7 q_1635 rfl (by decide +kernel) (by decide) (Nat.le_of_ble_eq_true rfl) (Nat.le_of_ble_eq_true rfl) (Nat.le_of_ble_eq_true rfl) rfl d7_refused_20 (fun m2 hm2 => ?_)
  refine g_iload_n hK 1 rfl rfl d7_refused_23 ?_
  refine g_ineg hK d7_refused_24 (fun v2 hv2 => ?_)
  exact g_iret hK hv2 rfl rfl d7_refused_25
set_option maxRecDepth 20000 in
theorem c7_isTooLong (l : Launch) (hst : l.stackTraces = false) (Z : zZ) (a1 : Int) (μ : zM) (ha1 : zr a1) : ∀ x, f7_isTooLong a1 μ = some x → zCt l Z (zΩ Z) y7_isTooLong (zws (.code y7_isTooLong b7_isTooLong 2 (some .boolean))) rm7_isTooLong [.ref (Z.2.2.1 + 292), .int (zi a1)] μ (ze2 mkZ x) := by
  intro x h
  refine zCt.of (enc := (ze2 mkZ)) h (by decide) hst (Nat.le_of_ble_eq_true rfl) (fun K hK0 hex hl _ => ?_)
  subst hl
  have hcx : zOk K Z b7_isTooLong RX7 2 (some .boolean) 44 1136 0 0 ∧ ∀ x ∈ K.2.2.2.2.2.2.2.2.2.exceptionTable.toList, False := ⟨hK0, hex⟩
  have hK := hcx.1
  show zG K Z (zΩ Z) (zF K Z (zΩ Z) (ze2 mkZ)) 0 0 0 [(0, .ref (Z.2.2.1 + 292)), (1, .int (zi a1))] [] μ (f7_isTooLong a1 μ)
  unfold f7_isTooLong
  refine g_aload_n hK 0 rfl rfl d7_isTooLong_0 ?_
  refine g_iload_n hK 1 rfl rfl d7_isTooLong_1 ?_
  refine g_callVcm hK (rm := rm7_lays) (cb := 0) (sb := 0) (As := [.int (zi a1)]) (b := 292) (n := 1) (c7_lays K.2.1 hK.2.2.2.2.2.2.2.2.1 Z a1 μ ha1) rfl (ci := 7) rfl (by decide) kc_292 q_1467 q_1469 qs_7_lays q_7 q_1470 rfl (by decide +kernel) (by decide) (Nat.le_of_ble_eq_true rfl) (Nat.le_of_ble_eq_true rfl) (Nat.le_of_ble_eq_true rfl) rfl d7_isTooLong_2 (fun m1 hm1 => ?_)
  refine g_aload_n hK 0 rfl rfl d7_isTooLong_5 ?_
  refine g_callVcl hK (mk := mkI) (rm := rm7_textLength) (cb := 0) (sb := 0) (As := []) (b := 292) (n := 0) (c7_textLength K.2.1 hK.2.2.2.2.2.2.2.2.1 Z  m1 ) rfl (ci := 7) rfl (by decide) kc_292 q_1487 q_1489 qs_7_textLength q_7 q_1490 rfl (by decide +kernel) (by decide) (Nat.le_of_ble_eq_true rfl) (Nat.le_of_ble_eq_true rfl) (Nat.le_of_ble_eq_true rfl) rfl d7_isTooLong_6 (fun r1 m2 hr1 hpr1 => ?_)
  refine g_sipush hK d7_isTooLong_9 zks400 ?_
  refine g_icmp_le hK hpr1 zc400 (tgt := 19) (by decide) d7_isTooLong_12 (fun _ => ?_) (fun _ => ?_)
  · refine g_iconst hK d7_isTooLong_19 zki0 ?_
    exact g_zret hK (by decide) rfl rfl d7_isTooLong_20
  · refine g_iconst hK d7_isTooLong_15 zki1 ?_
    refine g_goto hK (tgt := 20) (by decide) d7_isTooLong_16 ?_
    exact g_zret hK (by decide) rfl rfl d7_isTooLong_20
set_option maxRecDepth 20000 in
theorem p7_types_71 {K : zK} {Z : zZ} (hcx : zOk K Z b7_types RX7 8 (some .boolean) 1 29 0 0 ∧ ∀ x ∈ K.2.2.2.2.2.2.2.2.2.exceptionTable.toList, False) (a1 : Int) (a2 : Nat) (a3 : Int) (ha1 : zr a1) (ha2 : zkd a2 = 100) (ha3 : zr a3) (k71 : Int → Int → Int → Int → zM → Option (Bool × zM)) (hk71 : ∀ (x4 : Int) (x5 : Int) (x6 : Int) (x7 : Int) (μ : zM) (hx4 : zr x4) (hx5 : zr x5) (hx6 : zr x6) (hx7 : zr x7), zG K Z (zΩ Z) (zF K Z (zΩ Z) (ze2 mkZ)) 0 0 71 [(0, .ref (Z.2.2.1 + 292)), (2, .ref (Z.2.2.1 + a2)), (3, .int (zi a3)), (4, .int (zi x4)), (5, .int (zi x5)), (6, .int (zi x6)), (7, .int (zi x7))] [] μ (k71 x4 x5 x6 x7 μ)) (x4 : Int) (x5 : Int) (x6 : Int) (x7 : Int) (μ : zM) (hx4 : zr x4) (hx5 : zr x5) (hx6 : zr x6) (hx7 : zr x7) : zG K Z (zΩ Z) (zF K Z (zΩ Z) (ze2 mkZ)) 0 0 71 [(0, .ref (Z.2.2.1 + 292)), (2, .ref (Z.2.2.1 + a2)), (3, .int (zi a3)), (4, .int (zi x4)), (5, .int (zi x5)), (6, .int (zi x6)), (7, .int (zi x7))] [] μ (f7_types_71 a1 a2 a3 k71 x4 x5 x6 x7 μ) := by
  obtain ⟨hK, hex⟩ := id hcx
  unfold f7_types_71
  refine g_iload hK 6 rfl d7_types_71 ?_
  refine g_iload_n hK 2 rfl rfl d7_types_73 ?_
  refine g_icmp_ge hK hx7 ha3 (tgt := 109) (by decide) d7_types_74 (fun _ => ?_) (fun _ => ?_)
  · refine g_aload_n hK 0 rfl rfl d7_types_109 ?_
    refine g_getR hK zfin_7 (fa_7_1 kc_292) q_1198 (r := 293) (by decide +kernel) d7_types_110 ?_
    refine g_iload hK 3 rfl d7_types_113 ?_
    refine g_iconst hK d7_types_115 zki3 ?_
    refine g_iadd hK d7_types_116 (fun v9 hv9 => ?_)
    refine g_iload hK 4 rfl d7_types_117 ?_
    refine g_iadd hK d7_types_119 (fun v10 hv10 => ?_)
    refine g_iload hK 5 rfl d7_types_120 ?_
    refine g_iload_n hK 2 rfl rfl d7_types_122 ?_
    refine g_iadd hK d7_types_123 (fun v11 hv11 => ?_)
    refine g_iast hK hv11 kc_293 d7_types_124 (fun _ => ?_)
    refine g_ltM (fun m1 => ?_)
    refine g_aload_n hK 0 rfl rfl d7_types_125 ?_
    refine g_getR hK zfin_7 (fa_7_1 kc_292) q_1198 (r := 293) (by decide +kernel) d7_types_126 ?_
    refine g_iload hK 3 rfl d7_types_129 ?_
    refine g_iconst hK d7_types_131 zki2 ?_
    refine g_iadd hK d7_types_132 (fun v12 hv12 => ?_)
    refine g_dup2 hK d7_types_133 rfl rfl ?_
    refine g_iald hK kc_293 d7_types_134 (fun _ hl4 => ?_)
    refine g_iconst hK d7_types_135 zki1 ?_
    refine g_iload hK 4 rfl d7_types_136 ?_
    refine g_ishl hK d7_types_138 (fun v13 hv13 => ?_)
    refine g_ior hK d7_types_139 (fun v14 hv14 => ?_)
    refine g_iast hK hv14 kc_293 d7_types_140 (fun _ => ?_)
    refine g_ltM (fun m2 => ?_)
    refine g_iconst hK d7_types_141 zki1 ?_
    exact g_zret hK (by decide) rfl rfl d7_types_142
  · refine g_aload_n hK 0 rfl rfl d7_types_77 ?_
    refine g_getR hK zfin_7 (fa_7_1 kc_292) q_1198 (r := 293) (by decide +kernel) d7_types_78 ?_
    refine g_iload hK 3 rfl d7_types_81 ?_
    refine g_bipush hK d7_types_83 zkb13 ?_
    refine g_iadd hK d7_types_85 (fun v15 hv15 => ?_)
    refine g_bipush hK d7_types_86 zkb40 ?_
    refine g_iload hK 4 rfl d7_types_88 ?_
    refine g_imul hK d7_types_90 (fun v16 hv16 => ?_)
    refine g_iadd hK d7_types_91 (fun v17 hv17 => ?_)
    refine g_iload hK 5 rfl d7_types_92 ?_
    refine g_iadd hK d7_types_94 (fun v18 hv18 => ?_)
    refine g_iload hK 6 rfl d7_types_95 ?_
    refine g_iadd hK d7_types_97 (fun v19 hv19 => ?_)
    refine g_aload_n hK 1 rfl rfl d7_types_98 ?_
    refine g_iload hK 6 rfl d7_types_99 ?_
    refine g_iald hK ha2 d7_types_101 (fun _ hl5 => ?_)
    refine g_iast hK hl5 kc_293 d7_types_102 (fun _ => ?_)
    refine g_ltM (fun m3 => ?_)
    refine g_iinc hK (lv2 := fun v20 => [(0, .ref (Z.2.2.1 + 292)), (2, .ref (Z.2.2.1 + a2)), (3, .int (zi a3)), (4, .int (zi x4)), (5, .int (zi x5)), (6, .int (zi x6)), (7, .int (zi v20))]) 6 rfl [1, 2, 3, 4, 5, 6, 0] (fun _ => rfl) (by decide) d7_types_103 (fun v20 hv20 => ?_)
    refine g_goto hK (tgt := 71) (by decide) d7_types_106 ?_
    exact hk71 x4 x5 x6 v20 m3 hx4 hx5 hx6 hv20
set_option maxRecDepth 20000 in
theorem l7_types_71 {K : zK} {Z : zZ} (hcx : zOk K Z b7_types RX7 8 (some .boolean) 1 29 0 0 ∧ ∀ x ∈ K.2.2.2.2.2.2.2.2.2.exceptionTable.toList, False) (a1 : Int) (a2 : Nat) (a3 : Int) (ha1 : zr a1) (ha2 : zkd a2 = 100) (ha3 : zr a3) : ∀ (i9 : Nat) (x4 : Int) (x5 : Int) (x6 : Int) (x7 : Int) (μ : zM) (hx4 : zr x4) (hx5 : zr x5) (hx6 : zr x6) (hx7 : zr x7), zG K Z (zΩ Z) (zF K Z (zΩ Z) (ze2 mkZ)) 0 0 71 [(0, .ref (Z.2.2.1 + 292)), (2, .ref (Z.2.2.1 + a2)), (3, .int (zi a3)), (4, .int (zi x4)), (5, .int (zi x5)), (6, .int (zi x6)), (7, .int (zi x7))] [] μ (zfx (f7_types_71 a1 a2 a3) (fun _ _ _ _ _ => none) i9 x4 x5 x6 x7 μ) := by
  intro i9
  induction i9 with
  | zero => intro x4 x5 x6 x7 μ hx4 hx5 hx6 hx7; exact g_none
  | succ i9 ih => intro x4 x5 x6 x7 μ hx4 hx5 hx6 hx7; exact p7_types_71 hcx a1 a2 a3 ha1 ha2 ha3  (zfx (f7_types_71 a1 a2 a3) (fun _ _ _ _ _ => none) i9) ih x4 x5 x6 x7 μ hx4 hx5 hx6 hx7
set_option maxRecDepth 20000 in
theorem p7_types_55 {K : zK} {Z : zZ} (hcx : zOk K Z b7_types RX7 8 (some .boolean) 1 29 0 0 ∧ ∀ x ∈ K.2.2.2.2.2.2.2.2.2.exceptionTable.toList, False) (a1 : Int) (a2 : Nat) (a3 : Int) (ha1 : zr a1) (ha2 : zkd a2 = 100) (ha3 : zr a3) (x4 : Int) (x5 : Int) (s0 : Int) (μ : zM) (hx4 : zr x4) (hx5 : zr x5) (hs0 : zr s0) : zG K Z (zΩ Z) (zF K Z (zΩ Z) (ze2 mkZ)) 0 0 55 [(0, .ref (Z.2.2.1 + 292)), (2, .ref (Z.2.2.1 + a2)), (3, .int (zi a3)), (4, .int (zi x4)), (5, .int (zi x5))] [.int (zi s0)] μ (f7_types_55 a1 a2 a3 x4 x5 s0 μ) := by
  obtain ⟨hK, hex⟩ := id hcx
  unfold f7_types_55
  refine g_istore hK (lv2 := [(0, .ref (Z.2.2.1 + 292)), (2, .ref (Z.2.2.1 + a2)), (3, .int (zi a3)), (4, .int (zi x4)), (5, .int (zi x5)), (6, .int (zi s0))]) [1, 2, 3, 4, 5, 0] rfl (by decide) d7_types_55 ?_
  refine g_iload hK 5 rfl d7_types_57 ?_
  refine g_iload_n hK 2 rfl rfl d7_types_59 ?_
  refine g_iadd hK d7_types_60 (fun v8 hv8 => ?_)
  refine g_bipush hK d7_types_61 zkb40 ?_
  refine g_icmp_le hK hv8 zc40 (tgt := 68) (by decide) d7_types_63 (fun _ => ?_) (fun _ => ?_)
  · refine g_iconst hK d7_types_68 zki0 ?_
    refine g_istore hK (lv2 := [(0, .ref (Z.2.2.1 + 292)), (2, .ref (Z.2.2.1 + a2)), (3, .int (zi a3)), (4, .int (zi x4)), (5, .int (zi x5)), (6, .int (zi s0)), (7, .int (zi 0))]) [1, 2, 3, 4, 5, 6, 0] rfl (by decide) d7_types_69 ?_
    exact l7_types_71 hcx a1 a2 a3 ha1 ha2 ha3  zFu x4 x5 s0 0 μ hx4 hx5 hs0 zc0
  · refine g_iconst hK d7_types_66 zki0 ?_
    exact g_zret hK (by decide) rfl rfl d7_types_67
set_option maxRecDepth 20000 in
theorem c7_types (l : Launch) (hst : l.stackTraces = false) (Z : zZ) (a1 : Int) (a2 : Nat) (a3 : Int) (μ : zM) (ha1 : zr a1) (ha2 : zkd a2 = 100) (ha3 : zr a3) : ∀ x, f7_types a1 a2 a3 μ = some x → zCt l Z (zΩ Z) y7_types (zws (.code y7_types b7_types 8 (some .boolean))) rm7_types [.ref (Z.2.2.1 + 292), .int (zi a1), .ref (Z.2.2.1 + a2), .int (zi a3)] μ (ze2 mkZ x) := by
  intro x h
  refine zCt.of (enc := (ze2 mkZ)) h (by decide) hst (Nat.le_of_ble_eq_true rfl) (fun K hK0 hex hl _ => ?_)
  subst hl
  have hcx : zOk K Z b7_types RX7 8 (some .boolean) 1 29 0 0 ∧ ∀ x ∈ K.2.2.2.2.2.2.2.2.2.exceptionTable.toList, False := ⟨hK0, hex⟩
  have hK := hcx.1
  show zG K Z (zΩ Z) (zF K Z (zΩ Z) (ze2 mkZ)) 0 0 0 [(0, .ref (Z.2.2.1 + 292)), (1, .int (zi a1)), (2, .ref (Z.2.2.1 + a2)), (3, .int (zi a3))] [] μ (f7_types a1 a2 a3 μ)
  unfold f7_types
  refine g_sipush hK d7_types_0 zks604 ?_
  refine g_sipush hK d7_types_3 zks413 ?_
  refine g_iload_n hK 1 rfl rfl d7_types_6 ?_
  refine g_imul hK d7_types_7 (fun v1 hv1 => ?_)
  refine g_iadd hK d7_types_8 (fun v2 hv2 => ?_)
  refine g_istore hK (lv2 := [(0, .ref (Z.2.2.1 + 292)), (1, .int (zi a1)), (2, .ref (Z.2.2.1 + a2)), (3, .int (zi a3)), (4, .int (zi v2))]) [1, 2, 3, 4, 0] rfl (by decide) d7_types_9 ?_
  refine g_aload_n hK 0 rfl rfl d7_types_11 ?_
  refine g_getR hK zfin_7 (fa_7_1 kc_292) q_1198 (r := 293) (by decide +kernel) d7_types_12 ?_
  refine g_iload hK 4 rfl d7_types_15 ?_
  refine g_iconst hK d7_types_17 zki1 ?_
  refine g_iadd hK d7_types_18 (fun v3 hv3 => ?_)
  refine g_iald hK kc_293 d7_types_19 (fun _ hl1 => ?_)
  refine g_ltI hl1 (fun v4 hv4 => ?_)
  refine g_istore hK (lv2 := [(0, .ref (Z.2.2.1 + 292)), (1, .int (zi a1)), (2, .ref (Z.2.2.1 + a2)), (3, .int (zi a3)), (4, .int (zi v2)), (5, .int (zi v4))]) [1, 2, 3, 4, 5, 0] rfl (by decide) d7_types_20 ?_
  refine g_aload_n hK 0 rfl rfl d7_types_22 ?_
  refine g_getR hK zfin_7 (fa_7_1 kc_292) q_1198 (r := 293) (by decide +kernel) d7_types_23 ?_
  refine g_iload hK 4 rfl d7_types_26 ?_
  refine g_iconst hK d7_types_28 zki2 ?_
  refine g_iadd hK d7_types_29 (fun v5 hv5 => ?_)
  refine g_iald hK kc_293 d7_types_30 (fun _ hl2 => ?_)
  refine g_iload hK 5 rfl d7_types_31 ?_
  refine g_callSco hK (mk := mkZ) (rm := rm7_has) (cb := 0) (sb := 0) (As := [.int (zi (zI μ 293 (zx v5))), .int (zi v4)]) (n := 2) (c7_has K.2.1 hK.2.2.2.2.2.2.2.2.1 Z (zI μ 293 (zx v5)) v4 μ hl2 hv4) q_1390 q_1391 q_7 q_1392 rfl (by decide +kernel) (by decide) (Nat.le_of_ble_eq_true rfl) (Nat.le_of_ble_eq_true rfl) (Nat.le_of_ble_eq_true rfl) rfl d7_types_33 (fun r1 hr1 hpr1 => ?_)
  refine g_if_eq hK (zb_r r1) (tgt := 54) (by decide) d7_types_36 (fun _ => ?_) (fun _ => ?_)
  · refine g_iconst hK d7_types_54 zki0 ?_
    refine g_lv (lv2 := [(0, .ref (Z.2.2.1 + 292)), (2, .ref (Z.2.2.1 + a2)), (3, .int (zi a3)), (4, .int (zi v2)), (5, .int (zi v4))]) [0, 2, 3, 4, 5] rfl ?_
    exact p7_types_55 hcx a1 a2 a3 ha1 ha2 ha3  v2 v4 0 μ hv2 hv4 zc0
  · refine g_aload_n hK 0 rfl rfl d7_types_39 ?_
    refine g_getR hK zfin_7 (fa_7_1 kc_292) q_1198 (r := 293) (by decide +kernel) d7_types_40 ?_
    refine g_iload hK 4 rfl d7_types_43 ?_
    refine g_iconst hK d7_types_45 zki3 ?_
    refine g_iadd hK d7_types_46 (fun v6 hv6 => ?_)
    refine g_iload hK 5 rfl d7_types_47 ?_
    refine g_iadd hK d7_types_49 (fun v7 hv7 => ?_)
    refine g_iald hK kc_293 d7_types_50 (fun _ hl3 => ?_)
    refine g_goto hK (tgt := 55) (by decide) d7_types_51 ?_
    refine g_lv (lv2 := [(0, .ref (Z.2.2.1 + 292)), (2, .ref (Z.2.2.1 + a2)), (3, .int (zi a3)), (4, .int (zi v2)), (5, .int (zi v4))]) [0, 2, 3, 4, 5] rfl ?_
    exact p7_types_55 hcx a1 a2 a3 ha1 ha2 ha3  v2 v4 (zI μ 293 (zx v7)) μ hv2 hv4 hl3
set_option maxRecDepth 20000 in
theorem p7_ends_89 {K : zK} {Z : zZ} (hcx : zOk K Z b7_ends RX7 3 (some .int) 85 2198 0 0 ∧ ∀ x ∈ K.2.2.2.2.2.2.2.2.2.exceptionTable.toList, False) (k89 : Int → zM → Option (Int × zM)) (hk89 : ∀ (x2 : Int) (μ : zM) (hx2 : zr x2), zG K Z (zΩ Z) (zF K Z (zΩ Z) (ze2 mkI)) 0 0 89 [(0, .ref (Z.2.2.1 + 292)), (2, .int (zi x2))] [] μ (k89 x2 μ)) (x2 : Int) (μ : zM) (hx2 : zr x2) : zG K Z (zΩ Z) (zF K Z (zΩ Z) (ze2 mkI)) 0 0 89 [(0, .ref (Z.2.2.1 + 292)), (2, .int (zi x2))] [] μ (f7_ends_89 k89 x2 μ) := by
  obtain ⟨hK, hex⟩ := id hcx
  unfold f7_ends_89
  refine g_iload_n hK 1 rfl rfl d7_ends_89 ?_
  refine g_aload_n hK 0 rfl rfl d7_ends_90 ?_
  refine g_getI hK zfin_7 (fa_7_29 kc_292) q_1226 d7_ends_91 (fun hf3 => ?_)
  refine g_icmp_ge hK hx2 hf3 (tgt := 124) (by decide) d7_ends_94 (fun _ => ?_) (fun _ => ?_)
  · refine g_aload_n hK 0 rfl rfl d7_ends_124 ?_
    refine g_getR hK zfin_7 (fa_7_1 kc_292) q_1198 (r := 293) (by decide +kernel) d7_ends_125 ?_
    refine g_iconst hK d7_ends_128 zki2 ?_
    refine g_dup2 hK d7_ends_129 rfl rfl ?_
    refine g_iald hK kc_293 d7_ends_130 (fun _ hl3 => ?_)
    refine g_aload_n hK 0 rfl rfl d7_ends_131 ?_
    refine g_getI hK zfin_7 (fa_7_29 kc_292) q_1226 d7_ends_132 (fun hf4 => ?_)
    refine g_iadd hK d7_ends_135 (fun v5 hv5 => ?_)
    refine g_iast hK hv5 kc_293 d7_ends_136 (fun _ => ?_)
    refine g_ltM (fun m6 => ?_)
    refine g_iconst hK d7_ends_137 zki0 ?_
    exact g_iret hK zc0 rfl rfl d7_ends_138
  · refine g_aload_n hK 0 rfl rfl d7_ends_97 ?_
    refine g_getR hK zfin_7 (fa_7_1 kc_292) q_1198 (r := 293) (by decide +kernel) d7_ends_98 ?_
    refine g_iconst hK d7_ends_101 zki4 ?_
    refine g_aload_n hK 0 rfl rfl d7_ends_102 ?_
    refine g_getR hK zfin_7 (fa_7_1 kc_292) q_1198 (r := 293) (by decide +kernel) d7_ends_103 ?_
    refine g_iconst hK d7_ends_106 zki2 ?_
    refine g_iald hK kc_293 d7_ends_107 (fun _ hl4 => ?_)
    refine g_iadd hK d7_ends_108 (fun v6 hv6 => ?_)
    refine g_iload_n hK 1 rfl rfl d7_ends_109 ?_
    refine g_iadd hK d7_ends_110 (fun v7 hv7 => ?_)
    refine g_aload_n hK 0 rfl rfl d7_ends_111 ?_
    refine g_getR hK zfin_7 (fa_7_28 kc_292) q_1225 (r := 333) (by decide +kernel) d7_ends_112 ?_
    refine g_iload_n hK 1 rfl rfl d7_ends_115 ?_
    refine g_iald hK kc_333 d7_ends_116 (fun _ hl5 => ?_)
    refine g_iast hK hl5 kc_293 d7_ends_117 (fun _ => ?_)
    refine g_ltM (fun m7 => ?_)
    refine g_iinc hK (lv2 := fun v8 => [(0, .ref (Z.2.2.1 + 292)), (2, .int (zi v8))]) 1 rfl [1, 0] (fun _ => rfl) (by decide) d7_ends_118 (fun v8 hv8 => ?_)
    refine g_goto hK (tgt := 89) (by decide) d7_ends_121 ?_
    exact hk89 v8 m7 hv8
set_option maxRecDepth 20000 in
theorem l7_ends_89 {K : zK} {Z : zZ} (hcx : zOk K Z b7_ends RX7 3 (some .int) 85 2198 0 0 ∧ ∀ x ∈ K.2.2.2.2.2.2.2.2.2.exceptionTable.toList, False) : ∀ (i9 : Nat) (x2 : Int) (μ : zM) (hx2 : zr x2), zG K Z (zΩ Z) (zF K Z (zΩ Z) (ze2 mkI)) 0 0 89 [(0, .ref (Z.2.2.1 + 292)), (2, .int (zi x2))] [] μ (zfx (f7_ends_89) (fun _ _ => none) i9 x2 μ) := by
  intro i9
  induction i9 with
  | zero => intro x2 μ hx2; exact g_none
  | succ i9 ih => intro x2 μ hx2; exact p7_ends_89 hcx  (zfx (f7_ends_89) (fun _ _ => none) i9) ih x2 μ hx2
set_option maxRecDepth 20000 in
theorem c7_ends (l : Launch) (hst : l.stackTraces = false) (Z : zZ) (μ : zM) : ∀ x, f7_ends μ = some x → zCt l Z (zΩ Z) y7_ends (zws (.code y7_ends b7_ends 3 (some .int))) rm7_ends [.ref (Z.2.2.1 + 292)] μ (ze2 mkI x) := by
  intro x h
  refine zCt.of (enc := (ze2 mkI)) h (by decide) hst (Nat.le_of_ble_eq_true rfl) (fun K hK0 hex hl _ => ?_)
  subst hl
  have hcx : zOk K Z b7_ends RX7 3 (some .int) 85 2198 0 0 ∧ ∀ x ∈ K.2.2.2.2.2.2.2.2.2.exceptionTable.toList, False := ⟨hK0, hex⟩
  have hK := hcx.1
  show zG K Z (zΩ Z) (zF K Z (zΩ Z) (ze2 mkI)) 0 0 0 [(0, .ref (Z.2.2.1 + 292))] [] μ (f7_ends μ)
  unfold f7_ends
  refine g_aload_n hK 0 rfl rfl d7_ends_0 ?_
  refine g_getR hK zfin_7 (fa_7_1 kc_292) q_1198 (r := 293) (by decide +kernel) d7_ends_1 ?_
  refine g_iconst hK d7_ends_4 zki0 ?_
  refine g_iald hK kc_293 d7_ends_5 (fun _ hl1 => ?_)
  refine g_iconst hK d7_ends_6 zki1 ?_
  refine g_isub hK d7_ends_7 (fun v1 hv1 => ?_)
  refine g_istore_n hK (lv2 := [(0, .ref (Z.2.2.1 + 292)), (1, .int (zi v1))]) [1, 0] rfl rfl (by decide) d7_ends_8 ?_
  refine g_aload_n hK 0 rfl rfl d7_ends_9 ?_
  refine g_iload_n hK 1 rfl rfl d7_ends_10 ?_
  refine g_callVcm hK (rm := rm7_lays) (cb := 0) (sb := 0) (As := [.int (zi v1)]) (b := 292) (n := 1) (c7_lays K.2.1 hK.2.2.2.2.2.2.2.2.1 Z v1 μ hv1) rfl (ci := 7) rfl (by decide) kc_292 q_1467 q_1469 qs_7_lays q_7 q_1470 rfl (by decide +kernel) (by decide) (Nat.le_of_ble_eq_true rfl) (Nat.le_of_ble_eq_true rfl) (Nat.le_of_ble_eq_true rfl) rfl d7_ends_11 (fun m1 hm1 => ?_)
  refine g_aload_n hK 0 rfl rfl d7_ends_14 ?_
  refine g_callVcm hK (rm := rm7_writesText) (cb := 0) (sb := 0) (As := []) (b := 292) (n := 0) (c7_writesText K.2.1 hK.2.2.2.2.2.2.2.2.1 Z  m1 ) rfl (ci := 7) rfl (by decide) kc_292 q_1589 q_1591 qs_7_writesText q_7 q_1592 rfl (by decide +kernel) (by decide) (Nat.le_of_ble_eq_true rfl) (Nat.le_of_ble_eq_true rfl) (Nat.le_of_ble_eq_true rfl) rfl d7_ends_15 (fun m2 hm2 => ?_)
  refine g_aload_n hK 0 rfl rfl d7_ends_18 ?_
  refine g_getR hK zfin_7 (fa_7_1 kc_292) q_1198 (r := 293) (by decide +kernel) d7_ends_19 ?_
  refine g_iconst hK d7_ends_22 zki0 ?_
  refine g_iload_n hK 1 rfl rfl d7_ends_23 ?_
  refine g_iast hK hv1 kc_293 d7_ends_24 (fun _ => ?_)
  refine g_ltM (fun m3 => ?_)
  refine g_iload_n hK 1 rfl rfl d7_ends_25 ?_
  refine g_if_le hK hv1 (tgt := 67) (by decide) d7_ends_26 (fun _ => ?_) (fun _ => ?_)
  · refine g_aload_n hK 0 rfl rfl d7_ends_67 ?_
    refine g_getR hK zfin_7 (fa_7_1 kc_292) q_1198 (r := 293) (by decide +kernel) d7_ends_68 ?_
    refine g_iconst hK d7_ends_71 zki2 ?_
    refine g_iald hK kc_293 d7_ends_72 (fun _ hl2 => ?_)
    refine g_aload_n hK 0 rfl rfl d7_ends_73 ?_
    refine g_getI hK zfin_7 (fa_7_29 kc_292) q_1226 d7_ends_74 (fun hf1 => ?_)
    refine g_iadd hK d7_ends_77 (fun v2 hv2 => ?_)
    refine g_sipush hK d7_ends_78 zks600 ?_
    refine g_icmp_le hK hv2 zc600 (tgt := 87) (by decide) d7_ends_81 (fun _ => ?_) (fun _ => ?_)
    · refine g_iconst hK d7_ends_87 zki0 ?_
      refine g_istore_n hK (lv2 := [(0, .ref (Z.2.2.1 + 292)), (1, .int (zi v1)), (2, .int (zi 0))]) [1, 2, 0] rfl rfl (by decide) d7_ends_88 ?_
      refine g_lv (lv2 := [(0, .ref (Z.2.2.1 + 292)), (2, .int (zi 0))]) [0, 2] rfl ?_
      exact l7_ends_89 hcx  zFu 0 m3 zc0
    · refine g_bipush hK d7_ends_84 zkb9 ?_
      exact g_iret hK zc9 rfl rfl d7_ends_86
  · refine g_aload_n hK 0 rfl rfl d7_ends_29 ?_
    refine g_iload_n hK 1 rfl rfl d7_ends_30 ?_
    refine g_iconst hK d7_ends_31 zki1 ?_
    refine g_isub hK d7_ends_32 (fun v3 hv3 => ?_)
    refine g_aload_n hK 0 rfl rfl d7_ends_33 ?_
    refine g_getR hK zfin_7 (fa_7_28 kc_292) q_1225 (r := 333) (by decide +kernel) d7_ends_34 ?_
    refine g_aload_n hK 0 rfl rfl d7_ends_37 ?_
    refine g_getI hK zfin_7 (fa_7_29 kc_292) q_1226 d7_ends_38 (fun hf2 => ?_)
    refine g_callVcl hK (mk := mkZ) (rm := rm7_types) (cb := 0) (sb := 0) (As := [.int (zi v3), .ref (Z.2.2.1 + 333), .int (zi (zI m3 292 29))]) (b := 292) (n := 3) (c7_types K.2.1 hK.2.2.2.2.2.2.2.2.1 Z v3 333 (zI m3 292 29) m3 hv3 kc_333 hf2) rfl (ci := 7) rfl (by decide) kc_292 q_1672 q_1674 qs_7_types q_7 q_1675 rfl (by decide +kernel) (by decide) (Nat.le_of_ble_eq_true rfl) (Nat.le_of_ble_eq_true rfl) (Nat.le_of_ble_eq_true rfl) rfl d7_ends_41 (fun r1 m4 hr1 hpr1 => ?_)
    refine g_if_ne hK (zb_r r1) (tgt := 51) (by decide) d7_ends_44 (fun _ => ?_) (fun _ => ?_)
    · refine g_aload_n hK 0 rfl rfl d7_ends_51 ?_
      refine g_iload_n hK 1 rfl rfl d7_ends_52 ?_
      refine g_iconst hK d7_ends_53 zki1 ?_
      refine g_isub hK d7_ends_54 (fun v4 hv4 => ?_)
      refine g_callVcl hK (mk := mkZ) (rm := rm7_isTooLong) (cb := 0) (sb := 0) (As := [.int (zi v4)]) (b := 292) (n := 1) (c7_isTooLong K.2.1 hK.2.2.2.2.2.2.2.2.1 Z v4 m4 hv4) rfl (ci := 7) rfl (by decide) kc_292 q_1664 q_1666 qs_7_isTooLong q_7 q_1667 rfl (by decide +kernel) (by decide) (Nat.le_of_ble_eq_true rfl) (Nat.le_of_ble_eq_true rfl) (Nat.le_of_ble_eq_true rfl) rfl d7_ends_55 (fun r2 m5 hr2 hpr2 => ?_)
      refine g_if_eq hK (zb_r r2) (tgt := 65) (by decide) d7_ends_58 (fun _ => ?_) (fun _ => ?_)
      · refine g_iconst hK d7_ends_65 zki0 ?_
        exact g_iret hK zc0 rfl rfl d7_ends_66
      · refine g_iconst hK d7_ends_61 zki3 ?_
        refine g_goto hK (tgt := 66) (by decide) d7_ends_62 ?_
        exact g_iret hK zc3 rfl rfl d7_ends_66
    · refine g_iconst hK d7_ends_47 zki4 ?_
      refine g_goto hK (tgt := 66) (by decide) d7_ends_48 ?_
      exact g_iret hK zc4 rfl rfl d7_ends_66
set_option maxRecDepth 20000 in
theorem c7_tells (l : Launch) (hst : l.stackTraces = false) (Z : zZ) (a1 : Int) (a2 : Int) (μ : zM) (ha1 : zr a1) (ha2 : zr a2) : ∀ x, f7_tells a1 a2 μ = some x → zCt l Z (zΩ Z) y7_tells (zws (.code y7_tells b7_tells 3 (some .int))) rm7_tells [.ref (Z.2.2.1 + 292), .int (zi a1), .int (zi a2)] μ (ze2 mkI x) := by
  intro x h
  refine zCt.of (enc := (ze2 mkI)) h (by decide) hst (Nat.le_of_ble_eq_true rfl) (fun K hK0 hex hl _ => ?_)
  subst hl
  have hcx : zOk K Z b7_tells RX7 3 (some .int) 2 54 0 0 ∧ ∀ x ∈ K.2.2.2.2.2.2.2.2.2.exceptionTable.toList, False := ⟨hK0, hex⟩
  have hK := hcx.1
  show zG K Z (zΩ Z) (zF K Z (zΩ Z) (ze2 mkI)) 0 0 0 [(0, .ref (Z.2.2.1 + 292)), (1, .int (zi a1)), (2, .int (zi a2))] [] μ (f7_tells a1 a2 μ)
  unfold f7_tells
  refine g_iload_n hK 1 rfl rfl d7_tells_0 ?_
  refine g_if_le hK ha1 (tgt := 12) (by decide) d7_tells_1 (fun _ => ?_) (fun _ => ?_)
  · refine g_aload_n hK 0 rfl rfl d7_tells_12 ?_
    refine g_iload_n hK 2 rfl rfl d7_tells_13 ?_
    refine g_callVcl hK (mk := mkI) (rm := rm7_done) (cb := 0) (sb := 0) (As := [.int (zi a2)]) (b := 292) (n := 1) (c7_done K.2.1 hK.2.2.2.2.2.2.2.2.1 Z a2 μ ha2) rfl (ci := 7) rfl (by decide) kc_292 q_1680 q_1682 qs_7_done q_7 q_1683 rfl (by decide +kernel) (by decide) (Nat.le_of_ble_eq_true rfl) (Nat.le_of_ble_eq_true rfl) (Nat.le_of_ble_eq_true rfl) rfl d7_tells_14 (fun r1 m1 hr1 hpr1 => ?_)
    exact g_iret hK hpr1 rfl rfl d7_tells_17
  · refine g_aload_n hK 0 rfl rfl d7_tells_4 ?_
    refine g_iload_n hK 1 rfl rfl d7_tells_5 ?_
    refine g_callVcl hK (mk := mkI) (rm := rm7_refused) (cb := 0) (sb := 0) (As := [.int (zi a1)]) (b := 292) (n := 1) (c7_refused K.2.1 hK.2.2.2.2.2.2.2.2.1 Z a1 μ ha1) rfl (ci := 7) rfl (by decide) kc_292 q_1660 q_1662 qs_7_refused q_7 q_1663 rfl (by decide +kernel) (by decide) (Nat.le_of_ble_eq_true rfl) (Nat.le_of_ble_eq_true rfl) (Nat.le_of_ble_eq_true rfl) rfl d7_tells_6 (fun r2 m2 hr2 hpr2 => ?_)
    refine g_goto hK (tgt := 17) (by decide) d7_tells_9 ?_
    exact g_iret hK hpr2 rfl rfl d7_tells_17
