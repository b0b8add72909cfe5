set_option maxRecDepth 20000 in
theorem c7_laysValue_o (l : Launch) (hst : l.stackTraces = false) (Z : zZ) {n : Nat} (R_laysValue : (Int → zM → Option zM)) (hR_laysValue : ∀ (a1 : Int) (μ : zM) (ha1 : zr a1), ∀ x, R_laysValue a1 μ = some x → zCt l Z (zΩ Z) y7_laysValue (zws (.code y7_laysValue b7_laysValue 4 (none))) (rmGB n) [.ref (Z.2.2.1 + 292), .int (zi a1)] μ (zeM x)) (R_writesValue : (Int → zM → Option zM)) (hR_writesValue : ∀ (a1 : Int) (μ : zM) (ha1 : zr a1), ∀ x, R_writesValue a1 μ = some x → zCt l Z (zΩ Z) y7_writesValue (zws (.code y7_writesValue b7_writesValue 4 (none))) (rmGB n) [.ref (Z.2.2.1 + 292), .int (zi a1)] μ (zeM x)) (R_writesBody : (Int → Int → zM → Option zM)) (hR_writesBody : ∀ (a1 : Int) (a2 : Int) (μ : zM) (ha1 : zr a1) (ha2 : zr a2), ∀ x, R_writesBody a1 a2 μ = some x → zCt l Z (zΩ Z) y7_writesBody (zws (.code y7_writesBody b7_writesBody 7 (none))) (rmGB n) [.ref (Z.2.2.1 + 292), .int (zi a1), .int (zi a2)] μ (zeM x)) (a1 : Int) (μ : zM) (ha1 : zr a1) : ∀ x, f7_laysValue_o R_laysValue R_writesValue R_writesBody a1 μ = some x → zCt l Z (zΩ Z) y7_laysValue (zws (.code y7_laysValue b7_laysValue 4 (none))) (rmGB (n + 1)) [.ref (Z.2.2.1 + 292), .int (zi a1)] μ (zeM x) := by
  intro x h
  refine zCt.of (enc := zeM) h (by decide) hst (Nat.le_of_ble_eq_true rfl) (fun K hK0 hex hl _ => ?_)
  subst hl
  have hcx : zOk K Z b7_laysValue RX7 4 (none) (43 + (n + 1)) (1112 + (n + 1) * 26) 0 0 ∧ ∀ x ∈ K.2.2.2.2.2.2.2.2.2.exceptionTable.toList, False := ⟨hK0, hex⟩
  have hK := hcx.1
  show zG K Z (zΩ Z) (zF K Z (zΩ Z) zeM) 0 0 0 [(0, .ref (Z.2.2.1 + 292)), (1, .int (zi a1))] [] μ (f7_laysValue_o R_laysValue R_writesValue R_writesBody a1 μ)
  unfold f7_laysValue_o
  refine g_aload_n hK 0 rfl rfl d7_laysValue_0 ?_
  refine g_getR hK zfin_7 (fa_7_31 kc_292) q_1228 (r := 335) (by decide +kernel) d7_laysValue_1 ?_
  refine g_iload_n hK 1 rfl rfl d7_laysValue_4 ?_
  refine g_zald hK kc_335 d7_laysValue_5 (fun _ hl1 => ?_)
  refine g_if_eq hK hl1 (tgt := 10) (by decide) d7_laysValue_6 (fun _ => ?_) (fun _ => ?_)
  · refine g_aload_n hK 0 rfl rfl d7_laysValue_10 ?_
    refine g_getR hK zfin_7 (fa_7_31 kc_292) q_1228 (r := 335) (by decide +kernel) d7_laysValue_11 ?_
    refine g_iload_n hK 1 rfl rfl d7_laysValue_14 ?_
    refine g_iconst hK d7_laysValue_15 zki1 ?_
    refine g_zast hK kc_335 d7_laysValue_16 (fun _ => ?_)
    refine g_ltM (fun m1 => ?_)
    refine g_aload_n hK 0 rfl rfl d7_laysValue_17 ?_
    refine g_getI hK zfin_7 (fa_7_29 kc_292) q_1226 d7_laysValue_18 (fun hf1 => ?_)
    refine g_ltI hf1 (fun v1 hv1 => ?_)
    refine g_istore_n hK (lv2 := [(0, .ref (Z.2.2.1 + 292)), (1, .int (zi a1)), (2, .int (zi v1))]) [1, 2, 0] rfl rfl (by decide) d7_laysValue_21 ?_
    refine g_aload_n hK 0 rfl rfl d7_laysValue_22 ?_
    refine g_iload_n hK 1 rfl rfl d7_laysValue_23 ?_
    refine g_callVco hK (mk := mkZ) (rm := rm7_isTyped) (cb := 0) (sb := 0) (As := [.int (zi a1)]) (b := 292) (n := 1) (c7_isTyped K.2.1 hK.2.2.2.2.2.2.2.2.1 Z a1 m1 ha1) rfl (ci := 7) rfl (by decide) kc_292 q_1483 q_1485 qs_7_isTyped q_7 q_1486 rfl (by decide +kernel) (by decide) (by simp only [rm7_isTyped]; omega) (by simp only [rm7_isTyped]; omega) (Nat.le_of_ble_eq_true rfl) rfl d7_laysValue_24 (fun r1 hr1 hpr1 => ?_)
    refine g_if_eq hK (zb_r r1) (tgt := 96) (by decide) d7_laysValue_27 (fun _ => ?_) (fun _ => ?_)
    · refine g_aload_n hK 0 rfl rfl d7_laysValue_96 ?_
      refine g_getR hK zfin_7 (fa_7_25 kc_292) q_1222 (r := 331) (by decide +kernel) d7_laysValue_97 ?_
      refine g_iload_n hK 1 rfl rfl d7_laysValue_100 ?_
      refine g_iald hK kc_331 d7_laysValue_101 (fun _ hl2 => ?_)
      refine g_iconst hK d7_laysValue_102 zkim1 ?_
      refine g_icmp_eq hK hl2 zcm1 (tgt := 141) (by decide) d7_laysValue_103 (fun _ => ?_) (fun _ => ?_)
      · refine g_iload_n hK 2 rfl rfl d7_laysValue_141 ?_
        refine g_istore_n hK (lv2 := [(0, .ref (Z.2.2.1 + 292)), (1, .int (zi a1)), (2, .int (zi v1)), (3, .int (zi v1))]) [1, 2, 3, 0] rfl rfl (by decide) d7_laysValue_142 ?_
        exact l7_laysValue_143 hcx R_laysValue hR_laysValue R_writesValue hR_writesValue R_writesBody hR_writesBody a1 ha1  zFu v1 v1 m1 hv1 hv1
      · refine g_aload_n hK 0 rfl rfl d7_laysValue_106 ?_
        refine g_aload_n hK 0 rfl rfl d7_laysValue_107 ?_
        refine g_getR hK zfin_7 (fa_7_25 kc_292) q_1222 (r := 331) (by decide +kernel) d7_laysValue_108 ?_
        refine g_iload_n hK 1 rfl rfl d7_laysValue_111 ?_
        refine g_iald hK kc_331 d7_laysValue_112 (fun _ hl3 => ?_)
        refine g_callVco hK (mk := mkI) (rm := rm7_of) (cb := 0) (sb := 0) (As := [.int (zi (zI m1 331 (zx a1)))]) (b := 292) (n := 1) (c7_of K.2.1 hK.2.2.2.2.2.2.2.2.1 Z (zI m1 331 (zx a1)) m1 hl3) rfl (ci := 7) rfl (by decide) kc_292 q_1479 q_1481 qs_7_of q_7 q_1482 rfl (by decide +kernel) (by decide) (by simp only [rm7_of]; omega) (by simp only [rm7_of]; omega) (Nat.le_of_ble_eq_true rfl) rfl d7_laysValue_113 (fun r2 hr2 hpr2 => ?_)
        refine g_istore_n hK (lv2 := [(0, .ref (Z.2.2.1 + 292)), (1, .int (zi a1)), (2, .int (zi v1)), (3, .int (zi r2))]) [1, 2, 3, 0] rfl rfl (by decide) d7_laysValue_116 ?_
        refine g_aload_n hK 0 rfl rfl d7_laysValue_117 ?_
        refine g_aload_n hK 0 rfl rfl d7_laysValue_118 ?_
        refine g_getM hK zfin_7 (fa_7_8 kc_292) q_1205 (w := 6) (by decide) d7_laysValue_119 (fun hm1 => ?_)
        refine g_getRN hK zfin_6 (fa_6_11 hm1) qn_1159 (pt_6_at hm1) d7_laysValue_122 ?_
        refine g_iload_n hK 3 rfl rfl d7_laysValue_125 ?_
        refine g_iald hK (pt_6_at_k hm1) d7_laysValue_126 (fun _ hl4 => ?_)
        refine g_iconst hK d7_laysValue_127 zki1 ?_
        refine g_iadd hK d7_laysValue_128 (fun v2 hv2 => ?_)
        refine g_aload_n hK 0 rfl rfl d7_laysValue_129 ?_
        refine g_getM hK zfin_7 (fa_7_8 kc_292) q_1205 (w := 6) (by decide) d7_laysValue_130 (fun hm2 => ?_)
        refine g_getRN hK zfin_6 (fa_6_12 hm2) qn_1161 (pt_6_to hm2) d7_laysValue_133 ?_
        refine g_iload_n hK 3 rfl rfl d7_laysValue_136 ?_
        refine g_iald hK (pt_6_to_k hm2) d7_laysValue_137 (fun _ hl5 => ?_)
        refine g_callVcm hK (rm := (rmGB n)) (cb := 0) (sb := 0) (As := [.int (zi v2), .int (zi (zI m1 ((zR m1 292 8) + 11) (zx r2)))]) (b := 292) (n := 2) (hR_writesBody v2 (zI m1 ((zR m1 292 8) + 11) (zx r2)) m1 hv2 hl5) rfl (ci := 7) rfl (by decide) kc_292 q_1558 q_1560 qs_7_writesBody q_7 q_1561 rfl (by decide +kernel) (by decide) (by simp only [rmGB]; omega) (by simp only [rmGB]; omega) (Nat.le_of_ble_eq_true rfl) rfl d7_laysValue_138 (fun m2 hm2 => ?_)
        refine g_iload_n hK 2 rfl rfl d7_laysValue_141 ?_
        refine g_istore_n hK (lv2 := [(0, .ref (Z.2.2.1 + 292)), (1, .int (zi a1)), (2, .int (zi v1)), (3, .int (zi v1))]) [1, 2, 3, 0] rfl rfl (by decide) d7_laysValue_142 ?_
        exact l7_laysValue_143 hcx R_laysValue hR_laysValue R_writesValue hR_writesValue R_writesBody hR_writesBody a1 ha1  zFu v1 v1 m2 hv1 hv1
    · refine g_iconst hK d7_laysValue_30 zki0 ?_
      refine g_istore_n hK (lv2 := [(0, .ref (Z.2.2.1 + 292)), (1, .int (zi a1)), (2, .int (zi v1)), (3, .int (zi 0))]) [1, 2, 3, 0] rfl rfl (by decide) d7_laysValue_31 ?_
      exact l7_laysValue_32 hcx R_laysValue hR_laysValue R_writesValue hR_writesValue R_writesBody hR_writesBody a1 ha1  zFu v1 0 m1 hv1 zc0
  · exact g_vret hK rfl rfl d7_laysValue_9
set_option maxRecDepth 20000 in
theorem p7_writesValue_13 {K : zK} {Z : zZ} {n : Nat} (hcx : zOk K Z b7_writesValue RX7 4 (none) (43 + (n + 1)) (1112 + (n + 1) * 26) 0 0 ∧ ∀ x ∈ K.2.2.2.2.2.2.2.2.2.exceptionTable.toList, False) (R_laysValue : (Int → zM → Option zM)) (hR_laysValue : ∀ (a1 : Int) (μ : zM) (ha1 : zr a1), ∀ x, R_laysValue a1 μ = some x → zCt K.2.1 Z (zΩ Z) y7_laysValue (zws (.code y7_laysValue b7_laysValue 4 (none))) (rmGB n) [.ref (Z.2.2.1 + 292), .int (zi a1)] μ (zeM x)) (R_writesValue : (Int → zM → Option zM)) (hR_writesValue : ∀ (a1 : Int) (μ : zM) (ha1 : zr a1), ∀ x, R_writesValue a1 μ = some x → zCt K.2.1 Z (zΩ Z) y7_writesValue (zws (.code y7_writesValue b7_writesValue 4 (none))) (rmGB n) [.ref (Z.2.2.1 + 292), .int (zi a1)] μ (zeM x)) (R_writesBody : (Int → Int → zM → Option zM)) (hR_writesBody : ∀ (a1 : Int) (a2 : Int) (μ : zM) (ha1 : zr a1) (ha2 : zr a2), ∀ x, R_writesBody a1 a2 μ = some x → zCt K.2.1 Z (zΩ Z) y7_writesBody (zws (.code y7_writesBody b7_writesBody 7 (none))) (rmGB n) [.ref (Z.2.2.1 + 292), .int (zi a1), .int (zi a2)] μ (zeM x)) (a1 : Int) (ha1 : zr a1) (k13 : Int → Int → zM → Option zM) (hk13 : ∀ (x2 : Int) (x3 : Int) (μ : zM) (hx2 : zr x2) (hx3 : zr x3), zG K Z (zΩ Z) (zF K Z (zΩ Z) zeM) 0 0 13 [(0, .ref (Z.2.2.1 + 292)), (1, .int (zi a1)), (2, .int (zi x2)), (3, .int (zi x3))] [] μ (k13 x2 x3 μ)) (x2 : Int) (x3 : Int) (μ : zM) (hx2 : zr x2) (hx3 : zr x3) : zG K Z (zΩ Z) (zF K Z (zΩ Z) zeM) 0 0 13 [(0, .ref (Z.2.2.1 + 292)), (1, .int (zi a1)), (2, .int (zi x2)), (3, .int (zi x3))] [] μ (f7_writesValue_13 R_laysValue R_writesValue R_writesBody a1 k13 x2 x3 μ) := by
  obtain ⟨hK, hex⟩ := id hcx
  unfold f7_writesValue_13
  refine g_iload_n hK 3 rfl rfl d7_writesValue_13 ?_
  refine g_iload_n hK 2 rfl rfl d7_writesValue_14 ?_
  refine g_icmp_ge hK hx3 hx2 (tgt := 55) (by decide) d7_writesValue_15 (fun _ => ?_) (fun _ => ?_)
  · exact g_vret hK rfl rfl d7_writesValue_55
  · refine g_aload_n hK 0 rfl rfl d7_writesValue_18 ?_
    refine g_getR hK zfin_7 (fa_7_28 kc_292) q_1225 (r := 333) (by decide +kernel) d7_writesValue_19 ?_
    refine g_aload_n hK 0 rfl rfl d7_writesValue_22 ?_
    refine g_getI hK zfin_7 (fa_7_29 kc_292) q_1226 d7_writesValue_23 (fun hf1 => ?_)
    refine g_aload_n hK 0 rfl rfl d7_writesValue_26 ?_
    refine g_getR hK zfin_7 (fa_7_30 kc_292) q_1227 (r := 334) (by decide +kernel) d7_writesValue_27 ?_
    refine g_sipush hK d7_writesValue_30 zks410 ?_
    refine g_iload_n hK 1 rfl rfl d7_writesValue_33 ?_
    refine g_imul hK d7_writesValue_34 (fun v1 hv1 => ?_)
    refine g_iload_n hK 3 rfl rfl d7_writesValue_35 ?_
    refine g_iadd hK d7_writesValue_36 (fun v2 hv2 => ?_)
    refine g_iald hK kc_334 d7_writesValue_37 (fun _ hl1 => ?_)
    refine g_iast hK hl1 kc_333 d7_writesValue_38 (fun _ => ?_)
    refine g_ltM (fun m3 => ?_)
    refine g_aload_n hK 0 rfl rfl d7_writesValue_39 ?_
    refine g_dup hK d7_writesValue_40 rfl ?_
    refine g_getI hK zfin_7 (fa_7_29 kc_292) q_1226 d7_writesValue_41 (fun hf2 => ?_)
    refine g_iconst hK d7_writesValue_44 zki1 ?_
    refine g_iadd hK d7_writesValue_45 (fun v3 hv3 => ?_)
    refine g_putI hK zfin_7 (fa_7_29 kc_292) q_1226 hv3 rfl (tyX7_ok 29 (by decide)) tyX7 tyX7_ok nmX7 d7_writesValue_46 ?_
    refine g_ltM (fun m4 => ?_)
    refine g_iinc hK (lv2 := fun v4 => [(0, .ref (Z.2.2.1 + 292)), (1, .int (zi a1)), (2, .int (zi x2)), (3, .int (zi v4))]) 3 rfl [1, 2, 3, 0] (fun _ => rfl) (by decide) d7_writesValue_49 (fun v4 hv4 => ?_)
    refine g_goto hK (tgt := 13) (by decide) d7_writesValue_52 ?_
    exact hk13 x2 v4 m4 hx2 hv4
set_option maxRecDepth 20000 in
theorem l7_writesValue_13 {K : zK} {Z : zZ} {n : Nat} (hcx : zOk K Z b7_writesValue RX7 4 (none) (43 + (n + 1)) (1112 + (n + 1) * 26) 0 0 ∧ ∀ x ∈ K.2.2.2.2.2.2.2.2.2.exceptionTable.toList, False) (R_laysValue : (Int → zM → Option zM)) (hR_laysValue : ∀ (a1 : Int) (μ : zM) (ha1 : zr a1), ∀ x, R_laysValue a1 μ = some x → zCt K.2.1 Z (zΩ Z) y7_laysValue (zws (.code y7_laysValue b7_laysValue 4 (none))) (rmGB n) [.ref (Z.2.2.1 + 292), .int (zi a1)] μ (zeM x)) (R_writesValue : (Int → zM → Option zM)) (hR_writesValue : ∀ (a1 : Int) (μ : zM) (ha1 : zr a1), ∀ x, R_writesValue a1 μ = some x → zCt K.2.1 Z (zΩ Z) y7_writesValue (zws (.code y7_writesValue b7_writesValue 4 (none))) (rmGB n) [.ref (Z.2.2.1 + 292), .int (zi a1)] μ (zeM x)) (R_writesBody : (Int → Int → zM → Option zM)) (hR_writesBody : ∀ (a1 : Int) (a2 : Int) (μ : zM) (ha1 : zr a1) (ha2 : zr a2), ∀ x, R_writesBody a1 a2 μ = some x → zCt K.2.1 Z (zΩ Z) y7_writesBody (zws (.code y7_writesBody b7_writesBody 7 (none))) (rmGB n) [.ref (Z.2.2.1 + 292), .int (zi a1), .int (zi a2)] μ (zeM x)) (a1 : Int) (ha1 : zr a1) : ∀ (i9 : Nat) (x2 : Int) (x3 : Int) (μ : zM) (hx2 : zr x2) (hx3 : zr x3), zG K Z (zΩ Z) (zF K Z (zΩ Z) zeM) 0 0 13 [(0, .ref (Z.2.2.1 + 292)), (1, .int (zi a1)), (2, .int (zi x2)), (3, .int (zi x3))] [] μ (zfx (f7_writesValue_13 R_laysValue R_writesValue R_writesBody a1) (fun _ _ _ => none) i9 x2 x3 μ) := by
  intro i9
  induction i9 with
  | zero => intro x2 x3 μ hx2 hx3; exact g_none
  | succ i9 ih => intro x2 x3 μ hx2 hx3; exact p7_writesValue_13 hcx R_laysValue hR_laysValue R_writesValue hR_writesValue R_writesBody hR_writesBody a1 ha1  (zfx (f7_writesValue_13 R_laysValue R_writesValue R_writesBody a1) (fun _ _ _ => none) i9) ih x2 x3 μ hx2 hx3
set_option maxRecDepth 20000 in
theorem c7_writesValue_o (l : Launch) (hst : l.stackTraces = false) (Z : zZ) {n : Nat} (R_laysValue : (Int → zM → Option zM)) (hR_laysValue : ∀ (a1 : Int) (μ : zM) (ha1 : zr a1), ∀ x, R_laysValue a1 μ = some x → zCt l Z (zΩ Z) y7_laysValue (zws (.code y7_laysValue b7_laysValue 4 (none))) (rmGB n) [.ref (Z.2.2.1 + 292), .int (zi a1)] μ (zeM x)) (R_writesValue : (Int → zM → Option zM)) (hR_writesValue : ∀ (a1 : Int) (μ : zM) (ha1 : zr a1), ∀ x, R_writesValue a1 μ = some x → zCt l Z (zΩ Z) y7_writesValue (zws (.code y7_writesValue b7_writesValue 4 (none))) (rmGB n) [.ref (Z.2.2.1 + 292), .int (zi a1)] μ (zeM x)) (R_writesBody : (Int → Int → zM → Option zM)) (hR_writesBody : ∀ (a1 : Int) (a2 : Int) (μ : zM) (ha1 : zr a1) (ha2 : zr a2), ∀ x, R_writesBody a1 a2 μ = some x → zCt l Z (zΩ Z) y7_writesBody (zws (.code y7_writesBody b7_writesBody 7 (none))) (rmGB n) [.ref (Z.2.2.1 + 292), .int (zi a1), .int (zi a2)] μ (zeM x)) (a1 : Int) (μ : zM) (ha1 : zr a1) : ∀ x, f7_writesValue_o R_laysValue R_writesValue R_writesBody a1 μ = some x → zCt l Z (zΩ Z) y7_writesValue (zws (.code y7_writesValue b7_writesValue 4 (none))) (rmGB (n + 1)) [.ref (Z.2.2.1 + 292), .int (zi a1)] μ (zeM x) := by
  intro x h
  refine zCt.of (enc := zeM) h (by decide) hst (Nat.le_of_ble_eq_true rfl) (fun K hK0 hex hl _ => ?_)
  subst hl
  have hcx : zOk K Z b7_writesValue RX7 4 (none) (43 + (n + 1)) (1112 + (n + 1) * 26) 0 0 ∧ ∀ x ∈ K.2.2.2.2.2.2.2.2.2.exceptionTable.toList, False := ⟨hK0, hex⟩
  have hK := hcx.1
  show zG K Z (zΩ Z) (zF K Z (zΩ Z) zeM) 0 0 0 [(0, .ref (Z.2.2.1 + 292)), (1, .int (zi a1))] [] μ (f7_writesValue_o R_laysValue R_writesValue R_writesBody a1 μ)
  unfold f7_writesValue_o
  refine g_aload_n hK 0 rfl rfl d7_writesValue_0 ?_
  refine g_iload_n hK 1 rfl rfl d7_writesValue_1 ?_
  refine g_callVcm hK (rm := (rmGB n)) (cb := 0) (sb := 0) (As := [.int (zi a1)]) (b := 292) (n := 1) (hR_laysValue a1 μ ha1) rfl (ci := 7) rfl (by decide) kc_292 q_1554 q_1556 qs_7_laysValue q_7 q_1557 rfl (by decide +kernel) (by decide) (by simp only [rmGB]; omega) (by simp only [rmGB]; omega) (Nat.le_of_ble_eq_true rfl) rfl d7_writesValue_2 (fun m1 hm1 => ?_)
  refine g_aload_n hK 0 rfl rfl d7_writesValue_5 ?_
  refine g_iload_n hK 1 rfl rfl d7_writesValue_6 ?_
  refine g_callVcl hK (mk := mkI) (rm := (rmGA 40)) (cb := 0) (sb := 0) (As := [.int (zi a1)]) (b := 292) (n := 1) (c7_valueLength 40 K.2.1 hK.2.2.2.2.2.2.2.2.1 Z a1 m1 ha1) rfl (ci := 7) rfl (by decide) kc_292 q_1499 q_1501 qs_7_valueLength q_7 q_1502 rfl (by decide +kernel) (by decide) (by simp only [rmGA]; omega) (by simp only [rmGA]; omega) (Nat.le_of_ble_eq_true rfl) rfl d7_writesValue_7 (fun r1 m2 hr1 hpr1 => ?_)
  refine g_istore_n hK (lv2 := [(0, .ref (Z.2.2.1 + 292)), (1, .int (zi a1)), (2, .int (zi r1))]) [1, 2, 0] rfl rfl (by decide) d7_writesValue_10 ?_
  refine g_iconst hK d7_writesValue_11 zki0 ?_
  refine g_istore_n hK (lv2 := [(0, .ref (Z.2.2.1 + 292)), (1, .int (zi a1)), (2, .int (zi r1)), (3, .int (zi 0))]) [1, 2, 3, 0] rfl rfl (by decide) d7_writesValue_12 ?_
  exact l7_writesValue_13 hcx R_laysValue hR_laysValue R_writesValue hR_writesValue R_writesBody hR_writesBody a1 ha1  zFu r1 0 m2 hpr1 zc0
set_option maxRecDepth 20000 in
theorem p7_writesBody_2 {K : zK} {Z : zZ} {n : Nat} (hcx : zOk K Z b7_writesBody RX7 7 (none) (43 + (n + 1)) (1112 + (n + 1) * 26) 0 0 ∧ ∀ x ∈ K.2.2.2.2.2.2.2.2.2.exceptionTable.toList, False) (R_laysValue : (Int → zM → Option zM)) (hR_laysValue : ∀ (a1 : Int) (μ : zM) (ha1 : zr a1), ∀ x, R_laysValue a1 μ = some x → zCt K.2.1 Z (zΩ Z) y7_laysValue (zws (.code y7_laysValue b7_laysValue 4 (none))) (rmGB n) [.ref (Z.2.2.1 + 292), .int (zi a1)] μ (zeM x)) (R_writesValue : (Int → zM → Option zM)) (hR_writesValue : ∀ (a1 : Int) (μ : zM) (ha1 : zr a1), ∀ x, R_writesValue a1 μ = some x → zCt K.2.1 Z (zΩ Z) y7_writesValue (zws (.code y7_writesValue b7_writesValue 4 (none))) (rmGB n) [.ref (Z.2.2.1 + 292), .int (zi a1)] μ (zeM x)) (R_writesBody : (Int → Int → zM → Option zM)) (hR_writesBody : ∀ (a1 : Int) (a2 : Int) (μ : zM) (ha1 : zr a1) (ha2 : zr a2), ∀ x, R_writesBody a1 a2 μ = some x → zCt K.2.1 Z (zΩ Z) y7_writesBody (zws (.code y7_writesBody b7_writesBody 7 (none))) (rmGB n) [.ref (Z.2.2.1 + 292), .int (zi a1), .int (zi a2)] μ (zeM x)) (a1 : Int) (a2 : Int) (ha1 : zr a1) (ha2 : zr a2) (k2 : Int → zM → Option zM) (hk2 : ∀ (x3 : Int) (μ : zM) (hx3 : zr x3), zG K Z (zΩ Z) (zF K Z (zΩ Z) zeM) 0 0 2 [(0, .ref (Z.2.2.1 + 292)), (2, .int (zi a2)), (3, .int (zi x3))] [] μ (k2 x3 μ)) (x3 : Int) (μ : zM) (hx3 : zr x3) : zG K Z (zΩ Z) (zF K Z (zΩ Z) zeM) 0 0 2 [(0, .ref (Z.2.2.1 + 292)), (2, .int (zi a2)), (3, .int (zi x3))] [] μ (f7_writesBody_2 R_laysValue R_writesValue R_writesBody a1 a2 k2 x3 μ) := by
  obtain ⟨hK, hex⟩ := id hcx
  unfold f7_writesBody_2
  refine g_iload_n hK 2 rfl rfl d7_writesBody_2 ?_
  refine g_iload_n hK 1 rfl rfl d7_writesBody_3 ?_
  refine g_icmp_ge hK hx3 ha2 (tgt := 117) (by decide) d7_writesBody_4 (fun _ => ?_) (fun _ => ?_)
  · exact g_vret hK rfl rfl d7_writesBody_117
  · refine g_aload_n hK 0 rfl rfl d7_writesBody_7 ?_
    refine g_getM hK zfin_7 (fa_7_8 kc_292) q_1205 (w := 6) (by decide) d7_writesBody_8 (fun hm1 => ?_)
    refine g_getRN hK zfin_6 (fa_6_5 hm1) qn_1147 (pt_6_items hm1) d7_writesBody_11 ?_
    refine g_iload_n hK 2 rfl rfl d7_writesBody_14 ?_
    refine g_iald hK (pt_6_items_k hm1) d7_writesBody_15 (fun _ hl1 => ?_)
    refine g_ltI hl1 (fun v1 hv1 => ?_)
    refine g_istore hK (lv2 := [(0, .ref (Z.2.2.1 + 292)), (2, .int (zi a2)), (3, .int (zi x3)), (4, .int (zi v1))]) [1, 2, 3, 0] rfl (by decide) d7_writesBody_16 ?_
    refine g_iload hK 3 rfl d7_writesBody_18 ?_
    refine g_sipush hK d7_writesBody_20 zks1000 ?_
    refine g_icmp_lt hK hv1 zc1000 (tgt := 90) (by decide) d7_writesBody_23 (fun _ => ?_) (fun _ => ?_)
    · refine g_aload_n hK 0 rfl rfl d7_writesBody_90 ?_
      refine g_getR hK zfin_7 (fa_7_28 kc_292) q_1225 (r := 333) (by decide +kernel) d7_writesBody_91 ?_
      refine g_aload_n hK 0 rfl rfl d7_writesBody_94 ?_
      refine g_getI hK zfin_7 (fa_7_29 kc_292) q_1226 d7_writesBody_95 (fun hf1 => ?_)
      refine g_iload hK 3 rfl d7_writesBody_98 ?_
      refine g_iast hK hv1 kc_333 d7_writesBody_100 (fun _ => ?_)
      refine g_ltM (fun m1 => ?_)
      refine g_aload_n hK 0 rfl rfl d7_writesBody_101 ?_
      refine g_dup hK d7_writesBody_102 rfl ?_
      refine g_getI hK zfin_7 (fa_7_29 kc_292) q_1226 d7_writesBody_103 (fun hf2 => ?_)
      refine g_iconst hK d7_writesBody_106 zki1 ?_
      refine g_iadd hK d7_writesBody_107 (fun v2 hv2 => ?_)
      refine g_putI hK zfin_7 (fa_7_29 kc_292) q_1226 hv2 rfl (tyX7_ok 29 (by decide)) tyX7 tyX7_ok nmX7 d7_writesBody_108 ?_
      refine g_ltM (fun m2 => ?_)
      refine g_iinc hK (lv2 := fun v3 => [(0, .ref (Z.2.2.1 + 292)), (2, .int (zi a2)), (3, .int (zi v3)), (4, .int (zi v1))]) 2 rfl [1, 2, 0, 3] (fun _ => rfl) (by decide) d7_writesBody_111 (fun v3 hv3 => ?_)
      refine g_goto hK (tgt := 2) (by decide) d7_writesBody_114 ?_
      refine g_lv (lv2 := [(0, .ref (Z.2.2.1 + 292)), (2, .int (zi a2)), (3, .int (zi v3))]) [0, 1, 2] rfl ?_
      exact hk2 v3 m2 hv3
    · refine g_aload_n hK 0 rfl rfl d7_writesBody_26 ?_
      refine g_iload hK 3 rfl d7_writesBody_27 ?_
      refine g_sipush hK d7_writesBody_29 zks1000 ?_
      refine g_isub hK d7_writesBody_32 (fun v4 hv4 => ?_)
      refine g_callVco hK (mk := mkI) (rm := rm7_of) (cb := 0) (sb := 0) (As := [.int (zi v4)]) (b := 292) (n := 1) (c7_of K.2.1 hK.2.2.2.2.2.2.2.2.1 Z v4 μ hv4) rfl (ci := 7) rfl (by decide) kc_292 q_1479 q_1481 qs_7_of q_7 q_1482 rfl (by decide +kernel) (by decide) (by simp only [rm7_of]; omega) (by simp only [rm7_of]; omega) (Nat.le_of_ble_eq_true rfl) rfl d7_writesBody_33 (fun r1 hr1 hpr1 => ?_)
      refine g_istore hK (lv2 := [(0, .ref (Z.2.2.1 + 292)), (2, .int (zi a2)), (3, .int (zi x3)), (4, .int (zi v1)), (5, .int (zi r1))]) [1, 2, 3, 4, 0] rfl (by decide) d7_writesBody_36 ?_
      refine g_aload_n hK 0 rfl rfl d7_writesBody_38 ?_
      refine g_getI hK zfin_7 (fa_7_29 kc_292) q_1226 d7_writesBody_39 (fun hf3 => ?_)
      refine g_ltI hf3 (fun v5 hv5 => ?_)
      refine g_istore hK (lv2 := [(0, .ref (Z.2.2.1 + 292)), (2, .int (zi a2)), (3, .int (zi x3)), (4, .int (zi v1)), (5, .int (zi r1)), (6, .int (zi v5))]) [1, 2, 3, 4, 5, 0] rfl (by decide) d7_writesBody_42 ?_
      refine g_aload_n hK 0 rfl rfl d7_writesBody_44 ?_
      refine g_aload_n hK 0 rfl rfl d7_writesBody_45 ?_
      refine g_getM hK zfin_7 (fa_7_8 kc_292) q_1205 (w := 6) (by decide) d7_writesBody_46 (fun hm2 => ?_)
      refine g_getRN hK zfin_6 (fa_6_7 hm2) qn_1151 (pt_6_field hm2) d7_writesBody_49 ?_
      refine g_iload hK 4 rfl d7_writesBody_52 ?_
      refine g_iald hK (pt_6_field_k hm2) d7_writesBody_54 (fun _ hl2 => ?_)
      refine g_callVcm hK (rm := (rmGB n)) (cb := 0) (sb := 0) (As := [.int (zi (zI μ ((zR μ 292 8) + 6) (zx r1)))]) (b := 292) (n := 1) (hR_writesValue (zI μ ((zR μ 292 8) + 6) (zx r1)) μ hl2) rfl (ci := 7) rfl (by decide) kc_292 q_1550 q_1552 qs_7_writesValue q_7 q_1553 rfl (by decide +kernel) (by decide) (by simp only [rmGB]; omega) (by simp only [rmGB]; omega) (Nat.le_of_ble_eq_true rfl) rfl d7_writesBody_55 (fun m3 hm3 => ?_)
      refine g_aload_n hK 0 rfl rfl d7_writesBody_58 ?_
      refine g_aload_n hK 0 rfl rfl d7_writesBody_59 ?_
      refine g_getM hK zfin_7 (fa_7_8 kc_292) q_1205 (w := 6) (by decide) d7_writesBody_60 (fun hm3 => ?_)
      refine g_getRN hK zfin_6 (fa_6_8 hm3) qn_1153 (pt_6_change hm3) d7_writesBody_63 ?_
      refine g_iload hK 4 rfl d7_writesBody_66 ?_
      refine g_iald hK (pt_6_change_k hm3) d7_writesBody_68 (fun _ hl3 => ?_)
      refine g_iload hK 5 rfl d7_writesBody_69 ?_
      refine g_callVcm hK (rm := rm7_changes) (cb := 0) (sb := 0) (As := [.int (zi (zI m3 ((zR m3 292 8) + 7) (zx r1))), .int (zi v5)]) (b := 292) (n := 2) (c7_changes K.2.1 hK.2.2.2.2.2.2.2.2.1 Z (zI m3 ((zR m3 292 8) + 7) (zx r1)) v5 m3 hl3 hv5) rfl (ci := 7) rfl (by decide) kc_292 q_1562 q_1564 qs_7_changes q_7 q_1565 rfl (by decide +kernel) (by decide) (by simp only [rm7_changes]; omega) (by simp only [rm7_changes]; omega) (Nat.le_of_ble_eq_true rfl) rfl d7_writesBody_71 (fun m4 hm4 => ?_)
      refine g_aload_n hK 0 rfl rfl d7_writesBody_74 ?_
      refine g_getM hK zfin_7 (fa_7_8 kc_292) q_1205 (w := 6) (by decide) d7_writesBody_75 (fun hm4 => ?_)
      refine g_getRN hK zfin_6 (fa_6_12 hm4) qn_1161 (pt_6_to hm4) d7_writesBody_78 ?_
      refine g_iload hK 4 rfl d7_writesBody_81 ?_
      refine g_iald hK (pt_6_to_k hm4) d7_writesBody_83 (fun _ hl4 => ?_)
      refine g_iconst hK d7_writesBody_84 zki1 ?_
      refine g_iadd hK d7_writesBody_85 (fun v6 hv6 => ?_)
      refine g_istore_n hK (lv2 := [(0, .ref (Z.2.2.1 + 292)), (2, .int (zi a2)), (3, .int (zi v6)), (4, .int (zi v1)), (5, .int (zi r1)), (6, .int (zi v5))]) [1, 2, 0, 3, 4, 5] rfl rfl (by decide) d7_writesBody_86 ?_
      refine g_goto hK (tgt := 114) (by decide) d7_writesBody_87 ?_
      refine g_goto hK (tgt := 2) (by decide) d7_writesBody_114 ?_
      refine g_lv (lv2 := [(0, .ref (Z.2.2.1 + 292)), (2, .int (zi a2)), (3, .int (zi v6))]) [0, 1, 2] rfl ?_
      exact hk2 v6 m4 hv6
set_option maxRecDepth 20000 in
theorem l7_writesBody_2 {K : zK} {Z : zZ} {n : Nat} (hcx : zOk K Z b7_writesBody RX7 7 (none) (43 + (n + 1)) (1112 + (n + 1) * 26) 0 0 ∧ ∀ x ∈ K.2.2.2.2.2.2.2.2.2.exceptionTable.toList, False) (R_laysValue : (Int → zM → Option zM)) (hR_laysValue : ∀ (a1 : Int) (μ : zM) (ha1 : zr a1), ∀ x, R_laysValue a1 μ = some x → zCt K.2.1 Z (zΩ Z) y7_laysValue (zws (.code y7_laysValue b7_laysValue 4 (none))) (rmGB n) [.ref (Z.2.2.1 + 292), .int (zi a1)] μ (zeM x)) (R_writesValue : (Int → zM → Option zM)) (hR_writesValue : ∀ (a1 : Int) (μ : zM) (ha1 : zr a1), ∀ x, R_writesValue a1 μ = some x → zCt K.2.1 Z (zΩ Z) y7_writesValue (zws (.code y7_writesValue b7_writesValue 4 (none))) (rmGB n) [.ref (Z.2.2.1 + 292), .int (zi a1)] μ (zeM x)) (R_writesBody : (Int → Int → zM → Option zM)) (hR_writesBody : ∀ (a1 : Int) (a2 : Int) (μ : zM) (ha1 : zr a1) (ha2 : zr a2), ∀ x, R_writesBody a1 a2 μ = some x → zCt K.2.1 Z (zΩ Z) y7_writesBody (zws (.code y7_writesBody b7_writesBody 7 (none))) (rmGB n) [.ref (Z.2.2.1 + 292), .int (zi a1), .int (zi a2)] μ (zeM x)) (a1 : Int) (a2 : Int) (ha1 : zr a1) (ha2 : zr a2) : ∀ (i9 : Nat) (x3 : Int) (μ : zM) (hx3 : zr x3), zG K Z (zΩ Z) (zF K Z (zΩ Z) zeM) 0 0 2 [(0, .ref (Z.2.2.1 + 292)), (2, .int (zi a2)), (3, .int (zi x3))] [] μ (zfx (f7_writesBody_2 R_laysValue R_writesValue R_writesBody a1 a2) (fun _ _ => none) i9 x3 μ) := by
  intro i9
  induction i9 with
  | zero => intro x3 μ hx3; exact g_none
  | succ i9 ih => intro x3 μ hx3; exact p7_writesBody_2 hcx R_laysValue hR_laysValue R_writesValue hR_writesValue R_writesBody hR_writesBody a1 a2 ha1 ha2  (zfx (f7_writesBody_2 R_laysValue R_writesValue R_writesBody a1 a2) (fun _ _ => none) i9) ih x3 μ hx3
set_option maxRecDepth 20000 in
theorem c7_writesBody_o (l : Launch) (hst : l.stackTraces = false) (Z : zZ) {n : Nat} (R_laysValue : (Int → zM → Option zM)) (hR_laysValue : ∀ (a1 : Int) (μ : zM) (ha1 : zr a1), ∀ x, R_laysValue a1 μ = some x → zCt l Z (zΩ Z) y7_laysValue (zws (.code y7_laysValue b7_laysValue 4 (none))) (rmGB n) [.ref (Z.2.2.1 + 292), .int (zi a1)] μ (zeM x)) (R_writesValue : (Int → zM → Option zM)) (hR_writesValue : ∀ (a1 : Int) (μ : zM) (ha1 : zr a1), ∀ x, R_writesValue a1 μ = some x → zCt l Z (zΩ Z) y7_writesValue (zws (.code y7_writesValue b7_writesValue 4 (none))) (rmGB n) [.ref (Z.2.2.1 + 292), .int (zi a1)] μ (zeM x)) (R_writesBody : (Int → Int → zM → Option zM)) (hR_writesBody : ∀ (a1 : Int) (a2 : Int) (μ : zM) (ha1 : zr a1) (ha2 : zr a2), ∀ x, R_writesBody a1 a2 μ = some x → zCt l Z (zΩ Z) y7_writesBody (zws (.code y7_writesBody b7_writesBody 7 (none))) (rmGB n) [.ref (Z.2.2.1 + 292), .int (zi a1), .int (zi a2)] μ (zeM x)) (a1 : Int) (a2 : Int) (μ : zM) (ha1 : zr a1) (ha2 : zr a2) : ∀ x, f7_writesBody_o R_laysValue R_writesValue R_writesBody a1 a2 μ = some x → zCt l Z (zΩ Z) y7_writesBody (zws (.code y7_writesBody b7_writesBody 7 (none))) (rmGB (n + 1)) [.ref (Z.2.2.1 + 292), .int (zi a1), .int (zi a2)] μ (zeM x) := by
  intro x h
  refine zCt.of (enc := zeM) h (by decide) hst (Nat.le_of_ble_eq_true rfl) (fun K hK0 hex hl _ => ?_)
  subst hl
  have hcx : zOk K Z b7_writesBody RX7 7 (none) (43 + (n + 1)) (1112 + (n + 1) * 26) 0 0 ∧ ∀ x ∈ K.2.2.2.2.2.2.2.2.2.exceptionTable.toList, False := ⟨hK0, hex⟩
  have hK := hcx.1
  show zG K Z (zΩ Z) (zF K Z (zΩ Z) zeM) 0 0 0 [(0, .ref (Z.2.2.1 + 292)), (1, .int (zi a1)), (2, .int (zi a2))] [] μ (f7_writesBody_o R_laysValue R_writesValue R_writesBody a1 a2 μ)
  unfold f7_writesBody_o
  refine g_iload_n hK 1 rfl rfl d7_writesBody_0 ?_
  refine g_istore_n hK (lv2 := [(0, .ref (Z.2.2.1 + 292)), (1, .int (zi a1)), (2, .int (zi a2)), (3, .int (zi a1))]) [1, 2, 3, 0] rfl rfl (by decide) d7_writesBody_1 ?_
  refine g_lv (lv2 := [(0, .ref (Z.2.2.1 + 292)), (2, .int (zi a2)), (3, .int (zi a1))]) [0, 2, 3] rfl ?_
  exact l7_writesBody_2 hcx R_laysValue hR_laysValue R_writesValue hR_writesValue R_writesBody hR_writesBody a1 a2 ha1 ha2  zFu a1 μ ha1
set_option maxRecDepth 20000 in
theorem cGB (l : Launch) (hst : l.stackTraces = false) (Z : zZ) : ∀ n : Nat, (∀ (a1 : Int) (μ : zM) (ha1 : zr a1), ∀ x, f7_laysValue n a1 μ = some x → zCt l Z (zΩ Z) y7_laysValue (zws (.code y7_laysValue b7_laysValue 4 (none))) (rmGB n) [.ref (Z.2.2.1 + 292), .int (zi a1)] μ (zeM x)) ∧ (∀ (a1 : Int) (μ : zM) (ha1 : zr a1), ∀ x, f7_writesValue n a1 μ = some x → zCt l Z (zΩ Z) y7_writesValue (zws (.code y7_writesValue b7_writesValue 4 (none))) (rmGB n) [.ref (Z.2.2.1 + 292), .int (zi a1)] μ (zeM x)) ∧ (∀ (a1 : Int) (a2 : Int) (μ : zM) (ha1 : zr a1) (ha2 : zr a2), ∀ x, f7_writesBody n a1 a2 μ = some x → zCt l Z (zΩ Z) y7_writesBody (zws (.code y7_writesBody b7_writesBody 7 (none))) (rmGB n) [.ref (Z.2.2.1 + 292), .int (zi a1), .int (zi a2)] μ (zeM x)) := by
  intro n
  induction n with
  | zero => exact ⟨(by intros; rename_i h9; cases h9), (by intros; rename_i h9; cases h9), (by intros; rename_i h9; cases h9)⟩
  | succ n ih => exact ⟨c7_laysValue_o l hst Z (f7_laysValue n) ih.1 (f7_writesValue n) ih.2.1 (f7_writesBody n) ih.2.2, c7_writesValue_o l hst Z (f7_laysValue n) ih.1 (f7_writesValue n) ih.2.1 (f7_writesBody n) ih.2.2, c7_writesBody_o l hst Z (f7_laysValue n) ih.1 (f7_writesValue n) ih.2.1 (f7_writesBody n) ih.2.2⟩
set_option maxRecDepth 20000 in
theorem c7_laysValue (n : Nat) (l : Launch) (hst : l.stackTraces = false) (Z : zZ) (a1 : Int) (μ : zM) (ha1 : zr a1) : ∀ x, f7_laysValue n a1 μ = some x → zCt l Z (zΩ Z) y7_laysValue (zws (.code y7_laysValue b7_laysValue 4 (none))) (rmGB n) [.ref (Z.2.2.1 + 292), .int (zi a1)] μ (zeM x) := (cGB l hst Z n).1 a1 μ ha1
set_option maxRecDepth 20000 in
theorem c7_writesValue (n : Nat) (l : Launch) (hst : l.stackTraces = false) (Z : zZ) (a1 : Int) (μ : zM) (ha1 : zr a1) : ∀ x, f7_writesValue n a1 μ = some x → zCt l Z (zΩ Z) y7_writesValue (zws (.code y7_writesValue b7_writesValue 4 (none))) (rmGB n) [.ref (Z.2.2.1 + 292), .int (zi a1)] μ (zeM x) := (cGB l hst Z n).2.1 a1 μ ha1
set_option maxRecDepth 20000 in
theorem c7_writesBody (n : Nat) (l : Launch) (hst : l.stackTraces = false) (Z : zZ) (a1 : Int) (a2 : Int) (μ : zM) (ha1 : zr a1) (ha2 : zr a2) : ∀ x, f7_writesBody n a1 a2 μ = some x → zCt l Z (zΩ Z) y7_writesBody (zws (.code y7_writesBody b7_writesBody 7 (none))) (rmGB n) [.ref (Z.2.2.1 + 292), .int (zi a1), .int (zi a2)] μ (zeM x) := (cGB l hst Z n).2.2 a1 a2 μ ha1 ha2
set_option maxRecDepth 20000 in
theorem c7_writesText (l : Launch) (hst : l.stackTraces = false) (Z : zZ) (μ : zM) : ∀ x, f7_writesText μ = some x → zCt l Z (zΩ Z) y7_writesText (zws (.code y7_writesText b7_writesText 1 (none))) rm7_writesText [.ref (Z.2.2.1 + 292)] μ (zeM x) := by
  intro x h
  refine zCt.of (enc := zeM) h (by decide) hst (Nat.le_of_ble_eq_true rfl) (fun K hK0 hex hl _ => ?_)
  subst hl
  have hcx : zOk K Z b7_writesText RX7 1 (none) 84 2178 0 0 ∧ ∀ x ∈ K.2.2.2.2.2.2.2.2.2.exceptionTable.toList, False := ⟨hK0, hex⟩
  have hK := hcx.1
  show zG K Z (zΩ Z) (zF K Z (zΩ Z) zeM) 0 0 0 [(0, .ref (Z.2.2.1 + 292))] [] μ (f7_writesText μ)
  unfold f7_writesText
  refine g_aload_n hK 0 rfl rfl d7_writesText_0 ?_
  refine g_iconst hK d7_writesText_1 zki0 ?_
  refine g_putI hK zfin_7 (fa_7_29 kc_292) q_1226 zc0 rfl (tyX7_ok 29 (by decide)) tyX7 tyX7_ok nmX7 d7_writesText_2 ?_
  refine g_ltM (fun m1 => ?_)
  refine g_aload_n hK 0 rfl rfl d7_writesText_5 ?_
  refine g_aload_n hK 0 rfl rfl d7_writesText_6 ?_
  refine g_getM hK zfin_7 (fa_7_8 kc_292) q_1205 (w := 6) (by decide) d7_writesText_7 (fun hm1 => ?_)
  refine g_getRN hK zfin_6 (fa_6_4 hm1) qn_1145 (pt_6_from hm1) d7_writesText_10 ?_
  refine g_aload_n hK 0 rfl rfl d7_writesText_13 ?_
  refine g_getI hK zfin_7 (fa_7_21 kc_292) q_1218 d7_writesText_14 (fun hf1 => ?_)
  refine g_iald hK (pt_6_from_k hm1) d7_writesText_17 (fun _ hl1 => ?_)
  refine g_aload_n hK 0 rfl rfl d7_writesText_18 ?_
  refine g_getM hK zfin_7 (fa_7_8 kc_292) q_1205 (w := 6) (by decide) d7_writesText_19 (fun hm2 => ?_)
  refine g_getRN hK zfin_6 (fa_6_4 hm2) qn_1145 (pt_6_from hm2) d7_writesText_22 ?_
  refine g_aload_n hK 0 rfl rfl d7_writesText_25 ?_
  refine g_getI hK zfin_7 (fa_7_21 kc_292) q_1218 d7_writesText_26 (fun hf2 => ?_)
  refine g_iconst hK d7_writesText_29 zki1 ?_
  refine g_iadd hK d7_writesText_30 (fun v1 hv1 => ?_)
  refine g_iald hK (pt_6_from_k hm2) d7_writesText_31 (fun _ hl2 => ?_)
  refine g_callVcm hK (rm := (rmGB 40)) (cb := 0) (sb := 0) (As := [.int (zi (zI m1 ((zR m1 292 8) + 3) (zx (zI m1 292 21)))), .int (zi (zI m1 ((zR m1 292 8) + 3) (zx v1)))]) (b := 292) (n := 2) (c7_writesBody 40 K.2.1 hK.2.2.2.2.2.2.2.2.1 Z (zI m1 ((zR m1 292 8) + 3) (zx (zI m1 292 21))) (zI m1 ((zR m1 292 8) + 3) (zx v1)) m1 hl1 hl2) rfl (ci := 7) rfl (by decide) kc_292 q_1558 q_1560 qs_7_writesBody q_7 q_1561 rfl (by decide +kernel) (by decide) (Nat.le_of_ble_eq_true rfl) (Nat.le_of_ble_eq_true rfl) (Nat.le_of_ble_eq_true rfl) rfl d7_writesText_32 (fun m2 hm2 => ?_)
  exact g_vret hK rfl rfl d7_writesText_35
set_option maxRecDepth 20000 in
theorem p7_firstShown_2 {K : zK} {Z : zZ} (hcx : zOk K Z b7_firstShown RX7 3 (some .int) 1 29 0 0 ∧ ∀ x ∈ K.2.2.2.2.2.2.2.2.2.exceptionTable.toList, False) (a1 : Int) (μ : zM) (ha1 : zr a1) (k2 : Int → Option Int) (hk2 : ∀ (x2 : Int) (hx2 : zr x2), zG K Z (zΩ Z) (zF K Z (zΩ Z) (zeP mkI μ)) 0 0 2 [(0, .ref (Z.2.2.1 + 292)), (1, .int (zi a1)), (2, .int (zi x2))] [] μ (k2 x2)) (x2 : Int) (hx2 : zr x2) : zG K Z (zΩ Z) (zF K Z (zΩ Z) (zeP mkI μ)) 0 0 2 [(0, .ref (Z.2.2.1 + 292)), (1, .int (zi a1)), (2, .int (zi x2))] [] μ (f7_firstShown_2 a1 μ k2 x2) := by
  obtain ⟨hK, hex⟩ := id hcx
  unfold f7_firstShown_2
  refine g_iload_n hK 2 rfl rfl d7_firstShown_2 ?_
  refine g_aload_n hK 0 rfl rfl d7_firstShown_3 ?_
  refine g_callVco hK (mk := mkI) (rm := rm7_many) (cb := 0) (sb := 0) (As := []) (b := 292) (n := 0) (c7_many K.2.1 hK.2.2.2.2.2.2.2.2.1 Z  μ ) rfl (ci := 7) rfl (by decide) kc_292 q_1475 q_1477 qs_7_many q_7 q_1478 rfl (by decide +kernel) (by decide) (Nat.le_of_ble_eq_true rfl) (Nat.le_of_ble_eq_true rfl) (Nat.le_of_ble_eq_true rfl) rfl d7_firstShown_4 (fun r1 hr1 hpr1 => ?_)
  refine g_icmp_ge hK hx2 hpr1 (tgt := 44) (by decide) d7_firstShown_7 (fun _ => ?_) (fun _ => ?_)
  · refine g_iconst hK d7_firstShown_44 zkim1 ?_
    exact g_iret hK zcm1 rfl rfl d7_firstShown_45
  · refine g_aload_n hK 0 rfl rfl d7_firstShown_10 ?_
    refine g_getR hK zfin_7 (fa_7_23 kc_292) q_1220 (r := 329) (by decide +kernel) d7_firstShown_11 ?_
    refine g_iload_n hK 2 rfl rfl d7_firstShown_14 ?_
    refine g_zald hK kc_329 d7_firstShown_15 (fun _ hl1 => ?_)
    refine g_if_eq hK hl1 (tgt := 38) (by decide) d7_firstShown_16 (fun _ => ?_) (fun _ => ?_)
    · refine g_iinc hK (lv2 := fun v1 => [(0, .ref (Z.2.2.1 + 292)), (1, .int (zi a1)), (2, .int (zi v1))]) 2 rfl [1, 2, 0] (fun _ => rfl) (by decide) d7_firstShown_38 (fun v1 hv1 => ?_)
      refine g_goto hK (tgt := 2) (by decide) d7_firstShown_41 ?_
      exact hk2 v1  hv1
    · refine g_aload_n hK 0 rfl rfl d7_firstShown_19 ?_
      refine g_getM hK zfin_7 (fa_7_8 kc_292) q_1205 (w := 6) (by decide) d7_firstShown_20 (fun hm1 => ?_)
      refine g_getRN hK zfin_6 (fa_6_7 hm1) qn_1151 (pt_6_field hm1) d7_firstShown_23 ?_
      refine g_aload_n hK 0 rfl rfl d7_firstShown_26 ?_
      refine g_iload_n hK 2 rfl rfl d7_firstShown_27 ?_
      refine g_callVco hK (mk := mkI) (rm := rm7_of) (cb := 0) (sb := 0) (As := [.int (zi x2)]) (b := 292) (n := 1) (c7_of K.2.1 hK.2.2.2.2.2.2.2.2.1 Z x2 μ hx2) rfl (ci := 7) rfl (by decide) kc_292 q_1479 q_1481 qs_7_of q_7 q_1482 rfl (by decide +kernel) (by decide) (Nat.le_of_ble_eq_true rfl) (Nat.le_of_ble_eq_true rfl) (Nat.le_of_ble_eq_true rfl) rfl d7_firstShown_28 (fun r2 hr2 hpr2 => ?_)
      refine g_iald hK (pt_6_field_k hm1) d7_firstShown_31 (fun _ hl2 => ?_)
      refine g_iload_n hK 1 rfl rfl d7_firstShown_32 ?_
      refine g_icmp_ne hK hl2 ha1 (tgt := 38) (by decide) d7_firstShown_33 (fun _ => ?_) (fun _ => ?_)
      · refine g_iinc hK (lv2 := fun v2 => [(0, .ref (Z.2.2.1 + 292)), (1, .int (zi a1)), (2, .int (zi v2))]) 2 rfl [1, 2, 0] (fun _ => rfl) (by decide) d7_firstShown_38 (fun v2 hv2 => ?_)
        refine g_goto hK (tgt := 2) (by decide) d7_firstShown_41 ?_
        exact hk2 v2  hv2
      · refine g_iload_n hK 2 rfl rfl d7_firstShown_36 ?_
        exact g_iret hK hx2 rfl rfl d7_firstShown_37
set_option maxRecDepth 20000 in
theorem l7_firstShown_2 {K : zK} {Z : zZ} (hcx : zOk K Z b7_firstShown RX7 3 (some .int) 1 29 0 0 ∧ ∀ x ∈ K.2.2.2.2.2.2.2.2.2.exceptionTable.toList, False) (a1 : Int) (μ : zM) (ha1 : zr a1) : ∀ (i9 : Nat) (x2 : Int) (hx2 : zr x2), zG K Z (zΩ Z) (zF K Z (zΩ Z) (zeP mkI μ)) 0 0 2 [(0, .ref (Z.2.2.1 + 292)), (1, .int (zi a1)), (2, .int (zi x2))] [] μ (zfx (f7_firstShown_2 a1 μ) (fun _ => none) i9 x2) := by
  intro i9
  induction i9 with
  | zero => intro x2 hx2; exact g_none
  | succ i9 ih => intro x2 hx2; exact p7_firstShown_2 hcx a1 μ ha1  (zfx (f7_firstShown_2 a1 μ) (fun _ => none) i9) ih x2 hx2
set_option maxRecDepth 20000 in
theorem c7_firstShown (l : Launch) (hst : l.stackTraces = false) (Z : zZ) (a1 : Int) (μ : zM) (ha1 : zr a1) : ∀ x, f7_firstShown a1 μ = some x → zCt l Z (zΩ Z) y7_firstShown (zws (.code y7_firstShown b7_firstShown 3 (some .int))) rm7_firstShown [.ref (Z.2.2.1 + 292), .int (zi a1)] μ (zeP mkI μ x) := by
  intro x h
  refine zCt.of (enc := (zeP mkI μ)) h (by decide) hst (Nat.le_of_ble_eq_true rfl) (fun K hK0 hex hl _ => ?_)
  subst hl
  have hcx : zOk K Z b7_firstShown RX7 3 (some .int) 1 29 0 0 ∧ ∀ x ∈ K.2.2.2.2.2.2.2.2.2.exceptionTable.toList, False := ⟨hK0, hex⟩
  have hK := hcx.1
  show zG K Z (zΩ Z) (zF K Z (zΩ Z) (zeP mkI μ)) 0 0 0 [(0, .ref (Z.2.2.1 + 292)), (1, .int (zi a1))] [] μ (f7_firstShown a1 μ)
  unfold f7_firstShown
  refine g_iconst hK d7_firstShown_0 zki0 ?_
  refine g_istore_n hK (lv2 := [(0, .ref (Z.2.2.1 + 292)), (1, .int (zi a1)), (2, .int (zi 0))]) [1, 2, 0] rfl rfl (by decide) d7_firstShown_1 ?_
  exact l7_firstShown_2 hcx a1 μ ha1  zFu 0  zc0
set_option maxRecDepth 20000 in
theorem c7_keyOf (l : Launch) (hst : l.stackTraces = false) (Z : zZ) (a1 : Int) (μ : zM) (ha1 : zr a1) : ∀ x, f7_keyOf a1 μ = some x → zCt l Z (zΩ Z) y7_keyOf (zws (.code y7_keyOf b7_keyOf 2 (some .int))) rm7_keyOf [.ref (Z.2.2.1 + 292), .int (zi a1)] μ (zeP mkI μ x) := by
  intro x h
  refine zCt.of (enc := (zeP mkI μ)) h (by decide) hst (Nat.le_of_ble_eq_true rfl) (fun K hK0 hex hl _ => ?_)
  subst hl
  have hcx : zOk K Z b7_keyOf RX7 2 (some .int) 2 51 0 0 ∧ ∀ x ∈ K.2.2.2.2.2.2.2.2.2.exceptionTable.toList, False := ⟨hK0, hex⟩
  have hK := hcx.1
  show zG K Z (zΩ Z) (zF K Z (zΩ Z) (zeP mkI μ)) 0 0 0 [(0, .ref (Z.2.2.1 + 292)), (1, .int (zi a1))] [] μ (f7_keyOf a1 μ)
  unfold f7_keyOf
  refine g_iload_n hK 1 rfl rfl d7_keyOf_0 ?_
  refine g_if_ne hK ha1 (tgt := 10) (by decide) d7_keyOf_1 (fun _ => ?_) (fun _ => ?_)
  · refine g_aload_n hK 0 rfl rfl d7_keyOf_10 ?_
    refine g_getR hK zfin_7 (fa_7_1 kc_292) q_1198 (r := 293) (by decide +kernel) d7_keyOf_11 ?_
    refine g_iconst hK d7_keyOf_14 zki1 ?_
    refine g_iald hK kc_293 d7_keyOf_15 (fun _ hl1 => ?_)
    refine g_iconst hK d7_keyOf_16 zki1 ?_
    refine g_icmp_ne hK hl1 zc1 (tgt := 28) (by decide) d7_keyOf_17 (fun _ => ?_) (fun _ => ?_)
    · refine g_iload_n hK 1 rfl rfl d7_keyOf_28 ?_
      exact g_iret hK ha1 rfl rfl d7_keyOf_29
    · refine g_aload_n hK 0 rfl rfl d7_keyOf_20 ?_
      refine g_iload_n hK 1 rfl rfl d7_keyOf_21 ?_
      refine g_callVco hK (mk := mkI) (rm := rm7_firstShown) (cb := 0) (sb := 0) (As := [.int (zi a1)]) (b := 292) (n := 1) (c7_firstShown K.2.1 hK.2.2.2.2.2.2.2.2.1 Z a1 μ ha1) rfl (ci := 7) rfl (by decide) kc_292 q_1530 q_1532 qs_7_firstShown q_7 q_1533 rfl (by decide +kernel) (by decide) (Nat.le_of_ble_eq_true rfl) (Nat.le_of_ble_eq_true rfl) (Nat.le_of_ble_eq_true rfl) rfl d7_keyOf_22 (fun r1 hr1 hpr1 => ?_)
      refine g_goto hK (tgt := 29) (by decide) d7_keyOf_25 ?_
      exact g_iret hK hpr1 rfl rfl d7_keyOf_29
  · refine g_sipush hK d7_keyOf_4 zks1000 ?_
    refine g_goto hK (tgt := 29) (by decide) d7_keyOf_7 ?_
    exact g_iret hK zc1000 rfl rfl d7_keyOf_29
set_option maxRecDepth 20000 in
theorem p7_laysLeaving_76 {K : zK} {Z : zZ} (hcx : zOk K Z b7_laysLeaving RX7 3 (none) 3 72 0 0 ∧ ∀ x ∈ K.2.2.2.2.2.2.2.2.2.exceptionTable.toList, False) (k7 : Int → zM → Option zM) (hk7 : ∀ (x1 : Int) (μ : zM) (hx1 : zr x1), zG K Z (zΩ Z) (zF K Z (zΩ Z) zeM) 0 0 7 [(0, .ref (Z.2.2.1 + 292)), (1, .int (zi x1))] [] μ (k7 x1 μ)) (x1 : Int) (x2 : Int) (μ : zM) (hx1 : zr x1) (hx2 : zr x2) : zG K Z (zΩ Z) (zF K Z (zΩ Z) zeM) 0 0 76 [(0, .ref (Z.2.2.1 + 292)), (1, .int (zi x1)), (2, .int (zi x2))] [] μ (f7_laysLeaving_76 k7 x1 x2 μ) := by
  obtain ⟨hK, hex⟩ := id hcx
  unfold f7_laysLeaving_76
  refine g_aload_n hK 0 rfl rfl d7_laysLeaving_76 ?_
  refine g_getR hK zfin_7 (fa_7_32 kc_292) q_1229 (r := 336) (by decide +kernel) d7_laysLeaving_77 ?_
  refine g_iload_n hK 2 rfl rfl d7_laysLeaving_80 ?_
  refine g_iload_n hK 1 rfl rfl d7_laysLeaving_81 ?_
  refine g_iast hK hx1 kc_336 d7_laysLeaving_82 (fun _ => ?_)
  refine g_ltM (fun m3 => ?_)
  refine g_aload_n hK 0 rfl rfl d7_laysLeaving_83 ?_
  refine g_dup hK d7_laysLeaving_84 rfl ?_
  refine g_getI hK zfin_7 (fa_7_33 kc_292) q_1230 d7_laysLeaving_85 (fun hf3 => ?_)
  refine g_iconst hK d7_laysLeaving_88 zki1 ?_
  refine g_iadd hK d7_laysLeaving_89 (fun v6 hv6 => ?_)
  refine g_putI hK zfin_7 (fa_7_33 kc_292) q_1230 hv6 rfl (tyX7_ok 33 (by decide)) tyX7 tyX7_ok nmX7 d7_laysLeaving_90 ?_
  refine g_ltM (fun m4 => ?_)
  refine g_iinc hK (lv2 := fun v7 => [(0, .ref (Z.2.2.1 + 292)), (1, .int (zi v7)), (2, .int (zi x2))]) 1 rfl [1, 0, 2] (fun _ => rfl) (by decide) d7_laysLeaving_93 (fun v7 hv7 => ?_)
  refine g_goto hK (tgt := 7) (by decide) d7_laysLeaving_96 ?_
  refine g_lv (lv2 := [(0, .ref (Z.2.2.1 + 292)), (1, .int (zi v7))]) [0, 1] rfl ?_
  exact hk7 v7 m4 hv7
set_option maxRecDepth 20000 in
theorem p7_laysLeaving_32 {K : zK} {Z : zZ} (hcx : zOk K Z b7_laysLeaving RX7 3 (none) 3 72 0 0 ∧ ∀ x ∈ K.2.2.2.2.2.2.2.2.2.exceptionTable.toList, False) (k7 : Int → zM → Option zM) (hk7 : ∀ (x1 : Int) (μ : zM) (hx1 : zr x1), zG K Z (zΩ Z) (zF K Z (zΩ Z) zeM) 0 0 7 [(0, .ref (Z.2.2.1 + 292)), (1, .int (zi x1))] [] μ (k7 x1 μ)) (k32 : Int → Int → zM → Option zM) (hk32 : ∀ (x1 : Int) (x2 : Int) (μ : zM) (hx1 : zr x1) (hx2 : zr x2), zG K Z (zΩ Z) (zF K Z (zΩ Z) zeM) 0 0 32 [(0, .ref (Z.2.2.1 + 292)), (1, .int (zi x1)), (2, .int (zi x2))] [] μ (k32 x1 x2 μ)) (x1 : Int) (x2 : Int) (μ : zM) (hx1 : zr x1) (hx2 : zr x2) : zG K Z (zΩ Z) (zF K Z (zΩ Z) zeM) 0 0 32 [(0, .ref (Z.2.2.1 + 292)), (1, .int (zi x1)), (2, .int (zi x2))] [] μ (f7_laysLeaving_32 k7 k32 x1 x2 μ) := by
  obtain ⟨hK, hex⟩ := id hcx
  unfold f7_laysLeaving_32
  refine g_iload_n hK 2 rfl rfl d7_laysLeaving_32 ?_
  refine g_if_le hK hx2 (tgt := 76) (by decide) d7_laysLeaving_33 (fun _ => ?_) (fun _ => ?_)
  · exact p7_laysLeaving_76 hcx k7 hk7 x1 x2 μ hx1 hx2
  · refine g_aload_n hK 0 rfl rfl d7_laysLeaving_36 ?_
    refine g_aload_n hK 0 rfl rfl d7_laysLeaving_37 ?_
    refine g_getR hK zfin_7 (fa_7_32 kc_292) q_1229 (r := 336) (by decide +kernel) d7_laysLeaving_38 ?_
    refine g_iload_n hK 2 rfl rfl d7_laysLeaving_41 ?_
    refine g_iconst hK d7_laysLeaving_42 zki1 ?_
    refine g_isub hK d7_laysLeaving_43 (fun v3 hv3 => ?_)
    refine g_iald hK kc_336 d7_laysLeaving_44 (fun _ hl1 => ?_)
    refine g_callVco hK (mk := mkI) (rm := rm7_keyOf) (cb := 0) (sb := 0) (As := [.int (zi (zI μ 336 (zx v3)))]) (b := 292) (n := 1) (c7_keyOf K.2.1 hK.2.2.2.2.2.2.2.2.1 Z (zI μ 336 (zx v3)) μ hl1) rfl (ci := 7) rfl (by decide) kc_292 q_1526 q_1528 qs_7_keyOf q_7 q_1529 rfl (by decide +kernel) (by decide) (Nat.le_of_ble_eq_true rfl) (Nat.le_of_ble_eq_true rfl) (Nat.le_of_ble_eq_true rfl) rfl d7_laysLeaving_45 (fun r2 hr2 hpr2 => ?_)
    refine g_aload_n hK 0 rfl rfl d7_laysLeaving_48 ?_
    refine g_iload_n hK 1 rfl rfl d7_laysLeaving_49 ?_
    refine g_callVco hK (mk := mkI) (rm := rm7_keyOf) (cb := 0) (sb := 0) (As := [.int (zi x1)]) (b := 292) (n := 1) (c7_keyOf K.2.1 hK.2.2.2.2.2.2.2.2.1 Z x1 μ hx1) rfl (ci := 7) rfl (by decide) kc_292 q_1526 q_1528 qs_7_keyOf q_7 q_1529 rfl (by decide +kernel) (by decide) (Nat.le_of_ble_eq_true rfl) (Nat.le_of_ble_eq_true rfl) (Nat.le_of_ble_eq_true rfl) rfl d7_laysLeaving_50 (fun r3 hr3 hpr3 => ?_)
    refine g_icmp_le hK hpr2 hpr3 (tgt := 76) (by decide) d7_laysLeaving_53 (fun _ => ?_) (fun _ => ?_)
    · exact p7_laysLeaving_76 hcx k7 hk7 x1 x2 μ hx1 hx2
    · refine g_aload_n hK 0 rfl rfl d7_laysLeaving_56 ?_
      refine g_getR hK zfin_7 (fa_7_32 kc_292) q_1229 (r := 336) (by decide +kernel) d7_laysLeaving_57 ?_
      refine g_iload_n hK 2 rfl rfl d7_laysLeaving_60 ?_
      refine g_aload_n hK 0 rfl rfl d7_laysLeaving_61 ?_
      refine g_getR hK zfin_7 (fa_7_32 kc_292) q_1229 (r := 336) (by decide +kernel) d7_laysLeaving_62 ?_
      refine g_iload_n hK 2 rfl rfl d7_laysLeaving_65 ?_
      refine g_iconst hK d7_laysLeaving_66 zki1 ?_
      refine g_isub hK d7_laysLeaving_67 (fun v4 hv4 => ?_)
      refine g_iald hK kc_336 d7_laysLeaving_68 (fun _ hl2 => ?_)
      refine g_iast hK hl2 kc_336 d7_laysLeaving_69 (fun _ => ?_)
      refine g_ltM (fun m2 => ?_)
      refine g_iinc hK (lv2 := fun v5 => [(0, .ref (Z.2.2.1 + 292)), (1, .int (zi x1)), (2, .int (zi v5))]) 2 rfl [1, 2, 0] (fun _ => rfl) (by decide) d7_laysLeaving_70 (fun v5 hv5 => ?_)
      refine g_goto hK (tgt := 32) (by decide) d7_laysLeaving_73 ?_
      exact hk32 x1 v5 m2 hx1 hv5
set_option maxRecDepth 20000 in
theorem l7_laysLeaving_32 {K : zK} {Z : zZ} (hcx : zOk K Z b7_laysLeaving RX7 3 (none) 3 72 0 0 ∧ ∀ x ∈ K.2.2.2.2.2.2.2.2.2.exceptionTable.toList, False) (k7 : Int → zM → Option zM) (hk7 : ∀ (x1 : Int) (μ : zM) (hx1 : zr x1), zG K Z (zΩ Z) (zF K Z (zΩ Z) zeM) 0 0 7 [(0, .ref (Z.2.2.1 + 292)), (1, .int (zi x1))] [] μ (k7 x1 μ)) : ∀ (i9 : Nat) (x1 : Int) (x2 : Int) (μ : zM) (hx1 : zr x1) (hx2 : zr x2), zG K Z (zΩ Z) (zF K Z (zΩ Z) zeM) 0 0 32 [(0, .ref (Z.2.2.1 + 292)), (1, .int (zi x1)), (2, .int (zi x2))] [] μ (zfx (f7_laysLeaving_32 k7) (fun _ _ _ => none) i9 x1 x2 μ) := by
  intro i9
  induction i9 with
  | zero => intro x1 x2 μ hx1 hx2; exact g_none
  | succ i9 ih => intro x1 x2 μ hx1 hx2; exact p7_laysLeaving_32 hcx k7 hk7 (zfx (f7_laysLeaving_32 k7) (fun _ _ _ => none) i9) ih x1 x2 μ hx1 hx2
set_option maxRecDepth 20000 in
theorem p7_laysLeaving_7 {K : zK} {Z : zZ} (hcx : zOk K Z b7_laysLeaving RX7 3 (none) 3 72 0 0 ∧ ∀ x ∈ K.2.2.2.2.2.2.2.2.2.exceptionTable.toList, False) (k7 : Int → zM → Option zM) (hk7 : ∀ (x1 : Int) (μ : zM) (hx1 : zr x1), zG K Z (zΩ Z) (zF K Z (zΩ Z) zeM) 0 0 7 [(0, .ref (Z.2.2.1 + 292)), (1, .int (zi x1))] [] μ (k7 x1 μ)) (x1 : Int) (μ : zM) (hx1 : zr x1) : zG K Z (zΩ Z) (zF K Z (zΩ Z) zeM) 0 0 7 [(0, .ref (Z.2.2.1 + 292)), (1, .int (zi x1))] [] μ (f7_laysLeaving_7 k7 x1 μ) := by
  obtain ⟨hK, hex⟩ := id hcx
  unfold f7_laysLeaving_7
  refine g_iload_n hK 1 rfl rfl d7_laysLeaving_7 ?_
  refine g_bipush hK d7_laysLeaving_8 zkb10 ?_
  refine g_icmp_ge hK hx1 zc10 (tgt := 99) (by decide) d7_laysLeaving_10 (fun _ => ?_) (fun _ => ?_)
  · exact g_vret hK rfl rfl d7_laysLeaving_99
  · refine g_aload_n hK 0 rfl rfl d7_laysLeaving_13 ?_
    refine g_getI hK zfin_7 (fa_7_27 kc_292) q_1224 d7_laysLeaving_14 (fun hf1 => ?_)
    refine g_iload_n hK 1 rfl rfl d7_laysLeaving_17 ?_
    refine g_callSco hK (mk := mkZ) (rm := rm7_has) (cb := 0) (sb := 0) (As := [.int (zi (zI μ 292 27)), .int (zi x1)]) (n := 2) (c7_has K.2.1 hK.2.2.2.2.2.2.2.2.1 Z (zI μ 292 27) x1 μ hf1 hx1) q_1390 q_1391 q_7 q_1392 rfl (by decide +kernel) (by decide) (Nat.le_of_ble_eq_true rfl) (Nat.le_of_ble_eq_true rfl) (Nat.le_of_ble_eq_true rfl) rfl d7_laysLeaving_18 (fun r1 hr1 hpr1 => ?_)
    refine g_if_ne hK (zb_r r1) (tgt := 27) (by decide) d7_laysLeaving_21 (fun _ => ?_) (fun _ => ?_)
    · refine g_aload_n hK 0 rfl rfl d7_laysLeaving_27 ?_
      refine g_getI hK zfin_7 (fa_7_33 kc_292) q_1230 d7_laysLeaving_28 (fun hf2 => ?_)
      refine g_ltI hf2 (fun v1 hv1 => ?_)
      refine g_istore_n hK (lv2 := [(0, .ref (Z.2.2.1 + 292)), (1, .int (zi x1)), (2, .int (zi v1))]) [1, 2, 0] rfl rfl (by decide) d7_laysLeaving_31 ?_
      exact l7_laysLeaving_32 hcx k7 hk7 zFu x1 v1 μ hx1 hv1
    · refine g_goto hK (tgt := 93) (by decide) d7_laysLeaving_24 ?_
      refine g_iinc hK (lv2 := fun v2 => [(0, .ref (Z.2.2.1 + 292)), (1, .int (zi v2))]) 1 rfl [1, 0] (fun _ => rfl) (by decide) d7_laysLeaving_93 (fun v2 hv2 => ?_)
      refine g_goto hK (tgt := 7) (by decide) d7_laysLeaving_96 ?_
      exact hk7 v2 μ hv2
set_option maxRecDepth 20000 in
theorem l7_laysLeaving_7 {K : zK} {Z : zZ} (hcx : zOk K Z b7_laysLeaving RX7 3 (none) 3 72 0 0 ∧ ∀ x ∈ K.2.2.2.2.2.2.2.2.2.exceptionTable.toList, False) : ∀ (i9 : Nat) (x1 : Int) (μ : zM) (hx1 : zr x1), zG K Z (zΩ Z) (zF K Z (zΩ Z) zeM) 0 0 7 [(0, .ref (Z.2.2.1 + 292)), (1, .int (zi x1))] [] μ (zfx (f7_laysLeaving_7) (fun _ _ => none) i9 x1 μ) := by
  intro i9
  induction i9 with
  | zero => intro x1 μ hx1; exact g_none
  | succ i9 ih => intro x1 μ hx1; exact p7_laysLeaving_7 hcx  (zfx (f7_laysLeaving_7) (fun _ _ => none) i9) ih x1 μ hx1
set_option maxRecDepth 20000 in
theorem c7_laysLeaving (l : Launch) (hst : l.stackTraces = false) (Z : zZ) (μ : zM) : ∀ x, f7_laysLeaving μ = some x → zCt l Z (zΩ Z) y7_laysLeaving (zws (.code y7_laysLeaving b7_laysLeaving 3 (none))) rm7_laysLeaving [.ref (Z.2.2.1 + 292)] μ (zeM x) := by
  intro x h
  refine zCt.of (enc := zeM) h (by decide) hst (Nat.le_of_ble_eq_true rfl) (fun K hK0 hex hl _ => ?_)
  subst hl
  have hcx : zOk K Z b7_laysLeaving RX7 3 (none) 3 72 0 0 ∧ ∀ x ∈ K.2.2.2.2.2.2.2.2.2.exceptionTable.toList, False := ⟨hK0, hex⟩
  have hK := hcx.1
  show zG K Z (zΩ Z) (zF K Z (zΩ Z) zeM) 0 0 0 [(0, .ref (Z.2.2.1 + 292))] [] μ (f7_laysLeaving μ)
  unfold f7_laysLeaving
  refine g_aload_n hK 0 rfl rfl d7_laysLeaving_0 ?_
  refine g_iconst hK d7_laysLeaving_1 zki0 ?_
  refine g_putI hK zfin_7 (fa_7_33 kc_292) q_1230 zc0 rfl (tyX7_ok 33 (by decide)) tyX7 tyX7_ok nmX7 d7_laysLeaving_2 ?_
  refine g_ltM (fun m1 => ?_)
  refine g_iconst hK d7_laysLeaving_5 zki0 ?_
  refine g_istore_n hK (lv2 := [(0, .ref (Z.2.2.1 + 292)), (1, .int (zi 0))]) [1, 0] rfl rfl (by decide) d7_laysLeaving_6 ?_
  exact l7_laysLeaving_7 hcx  zFu 0 m1 zc0
set_option maxRecDepth 20000 in
theorem p7_placeOf_2 {K : zK} {Z : zZ} (hcx : zOk K Z b7_placeOf RX7 3 (some .int) 0 8 0 0 ∧ ∀ x ∈ K.2.2.2.2.2.2.2.2.2.exceptionTable.toList, False) (a1 : Int) (μ : zM) (ha1 : zr a1) (k2 : Int → Option Int) (hk2 : ∀ (x2 : Int) (hx2 : zr x2), zG K Z (zΩ Z) (zF K Z (zΩ Z) (zeP mkI μ)) 0 0 2 [(0, .ref (Z.2.2.1 + 292)), (1, .int (zi a1)), (2, .int (zi x2))] [] μ (k2 x2)) (x2 : Int) (hx2 : zr x2) : zG K Z (zΩ Z) (zF K Z (zΩ Z) (zeP mkI μ)) 0 0 2 [(0, .ref (Z.2.2.1 + 292)), (1, .int (zi a1)), (2, .int (zi x2))] [] μ (f7_placeOf_2 a1 μ k2 x2) := by
  obtain ⟨hK, hex⟩ := id hcx
  unfold f7_placeOf_2
  refine g_iload_n hK 2 rfl rfl d7_placeOf_2 ?_
  refine g_aload_n hK 0 rfl rfl d7_placeOf_3 ?_
  refine g_getI hK zfin_7 (fa_7_33 kc_292) q_1230 d7_placeOf_4 (fun hf1 => ?_)
  refine g_icmp_ge hK hx2 hf1 (tgt := 28) (by decide) d7_placeOf_7 (fun _ => ?_) (fun _ => ?_)
  · refine g_iconst hK d7_placeOf_28 zkim1 ?_
    exact g_iret hK zcm1 rfl rfl d7_placeOf_29
  · refine g_aload_n hK 0 rfl rfl d7_placeOf_10 ?_
    refine g_getR hK zfin_7 (fa_7_32 kc_292) q_1229 (r := 336) (by decide +kernel) d7_placeOf_11 ?_
    refine g_iload_n hK 2 rfl rfl d7_placeOf_14 ?_
    refine g_iald hK kc_336 d7_placeOf_15 (fun _ hl1 => ?_)
    refine g_iload_n hK 1 rfl rfl d7_placeOf_16 ?_
    refine g_icmp_ne hK hl1 ha1 (tgt := 22) (by decide) d7_placeOf_17 (fun _ => ?_) (fun _ => ?_)
    · refine g_iinc hK (lv2 := fun v1 => [(0, .ref (Z.2.2.1 + 292)), (1, .int (zi a1)), (2, .int (zi v1))]) 2 rfl [1, 2, 0] (fun _ => rfl) (by decide) d7_placeOf_22 (fun v1 hv1 => ?_)
      refine g_goto hK (tgt := 2) (by decide) d7_placeOf_25 ?_
      exact hk2 v1  hv1
    · refine g_iload_n hK 2 rfl rfl d7_placeOf_20 ?_
      exact g_iret hK hx2 rfl rfl d7_placeOf_21
set_option maxRecDepth 20000 in
theorem l7_placeOf_2 {K : zK} {Z : zZ} (hcx : zOk K Z b7_placeOf RX7 3 (some .int) 0 8 0 0 ∧ ∀ x ∈ K.2.2.2.2.2.2.2.2.2.exceptionTable.toList, False) (a1 : Int) (μ : zM) (ha1 : zr a1) : ∀ (i9 : Nat) (x2 : Int) (hx2 : zr x2), zG K Z (zΩ Z) (zF K Z (zΩ Z) (zeP mkI μ)) 0 0 2 [(0, .ref (Z.2.2.1 + 292)), (1, .int (zi a1)), (2, .int (zi x2))] [] μ (zfx (f7_placeOf_2 a1 μ) (fun _ => none) i9 x2) := by
  intro i9
  induction i9 with
  | zero => intro x2 hx2; exact g_none
  | succ i9 ih => intro x2 hx2; exact p7_placeOf_2 hcx a1 μ ha1  (zfx (f7_placeOf_2 a1 μ) (fun _ => none) i9) ih x2 hx2
set_option maxRecDepth 20000 in
theorem c7_placeOf (l : Launch) (hst : l.stackTraces = false) (Z : zZ) (a1 : Int) (μ : zM) (ha1 : zr a1) : ∀ x, f7_placeOf a1 μ = some x → zCt l Z (zΩ Z) y7_placeOf (zws (.code y7_placeOf b7_placeOf 3 (some .int))) rm7_placeOf [.ref (Z.2.2.1 + 292), .int (zi a1)] μ (zeP mkI μ x) := by
  intro x h
  refine zCt.of (enc := (zeP mkI μ)) h (by decide) hst (Nat.le_of_ble_eq_true rfl) (fun K hK0 hex hl _ => ?_)
  subst hl
  have hcx : zOk K Z b7_placeOf RX7 3 (some .int) 0 8 0 0 ∧ ∀ x ∈ K.2.2.2.2.2.2.2.2.2.exceptionTable.toList, False := ⟨hK0, hex⟩
  have hK := hcx.1
  show zG K Z (zΩ Z) (zF K Z (zΩ Z) (zeP mkI μ)) 0 0 0 [(0, .ref (Z.2.2.1 + 292)), (1, .int (zi a1))] [] μ (f7_placeOf a1 μ)
  unfold f7_placeOf
  refine g_iconst hK d7_placeOf_0 zki0 ?_
  refine g_istore_n hK (lv2 := [(0, .ref (Z.2.2.1 + 292)), (1, .int (zi a1)), (2, .int (zi 0))]) [1, 2, 0] rfl rfl (by decide) d7_placeOf_1 ?_
  exact l7_placeOf_2 hcx a1 μ ha1  zFu 0  zc0
set_option maxRecDepth 20000 in
theorem p7_size_20 {K : zK} {Z : zZ} (hcx : zOk K Z b7_size RX7 2 (some .int) 1 30 0 0 ∧ ∀ x ∈ K.2.2.2.2.2.2.2.2.2.exceptionTable.toList, False) (a1 : Int) (ha1 : zr a1) (s0 : Int) (μ : zM) (hs0 : zr s0) : zG K Z (zΩ Z) (zF K Z (zΩ Z) (ze2 mkI)) 0 0 20 [(0, .ref (Z.2.2.1 + 292)), (1, .int (zi a1))] [.int (zi s0), .ref (Z.2.2.1 + 292)] μ (f7_size_20 a1 s0 μ) := by
  obtain ⟨hK, hex⟩ := id hcx
  unfold f7_size_20
  refine g_iconst hK d7_size_20 zki1 ?_
  refine g_callVcl hK (mk := mkZ) (rm := rm7_throwsIf) (cb := 0) (sb := 0) (As := [.int (zi s0), .int (zi 1)]) (b := 292) (n := 2) (c7_throwsIf K.2.1 hK.2.2.2.2.2.2.2.2.1 Z s0 1 μ hs0 zc1) rfl (ci := 7) rfl (by decide) kc_292 q_1317 q_1319 qs_7_throwsIf q_7 q_1320 rfl (by decide +kernel) (by decide) (Nat.le_of_ble_eq_true rfl) (Nat.le_of_ble_eq_true rfl) (Nat.le_of_ble_eq_true rfl) rfl d7_size_21 (fun r2 m2 hr2 hpr2 => ?_)
  refine g_if_eq hK (zb_r r2) (tgt := 29) (by decide) d7_size_24 (fun _ => ?_) (fun _ => ?_)
  · refine g_iload_n hK 1 rfl rfl d7_size_29 ?_
    refine g_case (fun hs0 => ?_) (fun hs0 => ?_)
    · refine g_tabIn hK (v := 0) (tgt := 64) ha1 hs0 (by decide) (by decide) rfl (by decide) d7_size_30 ?_
      refine g_aload_n hK 0 rfl rfl d7_size_64 ?_
      refine g_getM hK zfin_7 (fa_7_8 kc_292) q_1205 (w := 6) (by decide) d7_size_65 (fun hm1 => ?_)
      refine g_getIN hK zfin_6 (fa_6_0 hm1) qn_1138 d7_size_68 (fun hf1 => ?_)
      exact g_iret hK hf1 rfl rfl d7_size_71
    refine g_case (fun hs1 => ?_) (fun hs1 => ?_)
    · refine g_tabIn hK (v := 1) (tgt := 72) ha1 hs1 (by decide) (by decide) rfl (by decide) d7_size_30 ?_
      refine g_aload_n hK 0 rfl rfl d7_size_72 ?_
      refine g_getR hK zfin_7 (fa_7_1 kc_292) q_1198 (r := 293) (by decide +kernel) d7_size_73 ?_
      refine g_iconst hK d7_size_76 zki0 ?_
      refine g_iald hK kc_293 d7_size_77 (fun _ hl1 => ?_)
      exact g_iret hK hl1 rfl rfl d7_size_78
    refine g_case (fun hs2 => ?_) (fun hs2 => ?_)
    · refine g_tabIn hK (v := 2) (tgt := 79) ha1 hs2 (by decide) (by decide) rfl (by decide) d7_size_30 ?_
      refine g_aload_n hK 0 rfl rfl d7_size_79 ?_
      refine g_getR hK zfin_7 (fa_7_1 kc_292) q_1198 (r := 293) (by decide +kernel) d7_size_80 ?_
      refine g_iconst hK d7_size_83 zki2 ?_
      refine g_iald hK kc_293 d7_size_84 (fun _ hl2 => ?_)
      exact g_iret hK hl2 rfl rfl d7_size_85
    refine g_case (fun hs3 => ?_) (fun hs3 => ?_)
    · refine g_tabIn hK (v := 3) (tgt := 86) ha1 hs3 (by decide) (by decide) rfl (by decide) d7_size_30 ?_
      refine g_aload_n hK 0 rfl rfl d7_size_86 ?_
      refine g_getR hK zfin_7 (fa_7_1 kc_292) q_1198 (r := 293) (by decide +kernel) d7_size_87 ?_
      refine g_iconst hK d7_size_90 zki1 ?_
      refine g_iald hK kc_293 d7_size_91 (fun _ hl3 => ?_)
      exact g_iret hK hl3 rfl rfl d7_size_92
    refine g_case (fun hs4 => ?_) (fun hs4 => ?_)
    · refine g_tabIn hK (v := 4) (tgt := 93) ha1 hs4 (by decide) (by decide) rfl (by decide) d7_size_30 ?_
      refine g_aload_n hK 0 rfl rfl d7_size_93 ?_
      refine g_getI hK zfin_7 (fa_7_10 kc_292) q_1207 d7_size_94 (fun hf2 => ?_)
      exact g_iret hK hf2 rfl rfl d7_size_97
    refine g_tabOut hK (tgt := 98) ha1 (by omega) (by decide) d7_size_30 ?_
    refine g_aload_n hK 0 rfl rfl d7_size_98 ?_
    refine g_getI hK zfin_7 (fa_7_7 kc_292) q_1204 d7_size_99 (fun hf3 => ?_)
    exact g_iret hK hf3 rfl rfl d7_size_102
  · refine g_iconst hK d7_size_27 zki0 ?_
    exact g_iret hK zc0 rfl rfl d7_size_28
set_option maxRecDepth 20000 in
theorem c7_size (l : Launch) (hst : l.stackTraces = false) (Z : zZ) (a1 : Int) (μ : zM) (ha1 : zr a1) : ∀ x, f7_size a1 μ = some x → zCt l Z (zΩ Z) y7_size (zws (.code y7_size b7_size 2 (some .int))) rm7_size [.ref (Z.2.2.1 + 292), .int (zi a1)] μ (ze2 mkI x) := by
  intro x h
  refine zCt.of (enc := (ze2 mkI)) h (by decide) hst (Nat.le_of_ble_eq_true rfl) (fun K hK0 hex hl _ => ?_)
  subst hl
  have hcx : zOk K Z b7_size RX7 2 (some .int) 1 30 0 0 ∧ ∀ x ∈ K.2.2.2.2.2.2.2.2.2.exceptionTable.toList, False := ⟨hK0, hex⟩
  have hK := hcx.1
  show zG K Z (zΩ Z) (zF K Z (zΩ Z) (ze2 mkI)) 0 0 0 [(0, .ref (Z.2.2.1 + 292)), (1, .int (zi a1))] [] μ (f7_size a1 μ)
  unfold f7_size
  refine g_aload_n hK 0 rfl rfl d7_size_0 ?_
  refine g_iconst hK d7_size_1 zki0 ?_
  refine g_putI hK zfin_7 (fa_7_0 kc_292) q_1197 zc0 rfl (tyX7_ok 0 (by decide)) tyX7 tyX7_ok nmX7 d7_size_2 ?_
  refine g_ltM (fun m1 => ?_)
  refine g_aload_n hK 0 rfl rfl d7_size_5 ?_
  refine g_iload_n hK 1 rfl rfl d7_size_6 ?_
  refine g_iconst hK d7_size_7 zki0 ?_
  refine g_iconst hK d7_size_8 zki5 ?_
  refine g_callSco hK (mk := mkZ) (rm := rm7_within) (cb := 0) (sb := 0) (As := [.int (zi a1), .int (zi 0), .int (zi 5)]) (n := 3) (c7_within K.2.1 hK.2.2.2.2.2.2.2.2.1 Z a1 0 5 m1 ha1 zc0 zc5) q_1344 q_1345 q_7 q_1346 rfl (by decide +kernel) (by decide) (Nat.le_of_ble_eq_true rfl) (Nat.le_of_ble_eq_true rfl) (Nat.le_of_ble_eq_true rfl) rfl d7_size_9 (fun r1 hr1 hpr1 => ?_)
  refine g_if_ne hK (zb_r r1) (tgt := 19) (by decide) d7_size_12 (fun _ => ?_) (fun _ => ?_)
  · refine g_iconst hK d7_size_19 zki0 ?_
    exact p7_size_20 hcx a1 ha1  0 m1 zc0
  · refine g_iconst hK d7_size_15 zki1 ?_
    refine g_goto hK (tgt := 20) (by decide) d7_size_16 ?_
    exact p7_size_20 hcx a1 ha1  1 m1 zc1
set_option maxRecDepth 20000 in
theorem p7_fieldsOf_4 {K : zK} {Z : zZ} (hcx : zOk K Z b7_fieldsOf RX7 4 (some .int) 0 8 0 0 ∧ ∀ x ∈ K.2.2.2.2.2.2.2.2.2.exceptionTable.toList, False) (a1 : Int) (μ : zM) (ha1 : zr a1) (k4 : Int → Int → Option Int) (hk4 : ∀ (x2 : Int) (x3 : Int) (hx2 : zr x2) (hx3 : zr x3), zG K Z (zΩ Z) (zF K Z (zΩ Z) (zeP mkI μ)) 0 0 4 [(0, .ref (Z.2.2.1 + 292)), (1, .int (zi a1)), (2, .int (zi x2)), (3, .int (zi x3))] [] μ (k4 x2 x3)) (x2 : Int) (x3 : Int) (hx2 : zr x2) (hx3 : zr x3) : zG K Z (zΩ Z) (zF K Z (zΩ Z) (zeP mkI μ)) 0 0 4 [(0, .ref (Z.2.2.1 + 292)), (1, .int (zi a1)), (2, .int (zi x2)), (3, .int (zi x3))] [] μ (f7_fieldsOf_4 a1 μ k4 x2 x3) := by
  obtain ⟨hK, hex⟩ := id hcx
  unfold f7_fieldsOf_4
  refine g_iload_n hK 3 rfl rfl d7_fieldsOf_4 ?_
  refine g_aload_n hK 0 rfl rfl d7_fieldsOf_5 ?_
  refine g_getM hK zfin_7 (fa_7_8 kc_292) q_1205 (w := 6) (by decide) d7_fieldsOf_6 (fun hm1 => ?_)
  refine g_getRN hK zfin_6 (fa_6_6 hm1) qn_1149 (pt_6_occurrences hm1) d7_fieldsOf_9 ?_
  refine g_iload_n hK 1 rfl rfl d7_fieldsOf_12 ?_
  refine g_iald hK (pt_6_occurrences_k hm1) d7_fieldsOf_13 (fun _ hl1 => ?_)
  refine g_icmp_ge hK hx3 hl1 (tgt := 42) (by decide) d7_fieldsOf_14 (fun _ => ?_) (fun _ => ?_)
  · refine g_iload_n hK 2 rfl rfl d7_fieldsOf_42 ?_
    exact g_iret hK hx2 rfl rfl d7_fieldsOf_43
  · refine g_iload_n hK 2 rfl rfl d7_fieldsOf_17 ?_
    refine g_iconst hK d7_fieldsOf_18 zki1 ?_
    refine g_aload_n hK 0 rfl rfl d7_fieldsOf_19 ?_
    refine g_getM hK zfin_7 (fa_7_8 kc_292) q_1205 (w := 6) (by decide) d7_fieldsOf_20 (fun hm2 => ?_)
    refine g_getRN hK zfin_6 (fa_6_7 hm2) qn_1151 (pt_6_field hm2) d7_fieldsOf_23 ?_
    refine g_bipush hK d7_fieldsOf_26 zkb60 ?_
    refine g_iload_n hK 1 rfl rfl d7_fieldsOf_28 ?_
    refine g_imul hK d7_fieldsOf_29 (fun v1 hv1 => ?_)
    refine g_iload_n hK 3 rfl rfl d7_fieldsOf_30 ?_
    refine g_iadd hK d7_fieldsOf_31 (fun v2 hv2 => ?_)
    refine g_iald hK (pt_6_field_k hm2) d7_fieldsOf_32 (fun _ hl2 => ?_)
    refine g_ishl hK d7_fieldsOf_33 (fun v3 hv3 => ?_)
    refine g_ior hK d7_fieldsOf_34 (fun v4 hv4 => ?_)
    refine g_istore_n hK (lv2 := [(0, .ref (Z.2.2.1 + 292)), (1, .int (zi a1)), (2, .int (zi v4)), (3, .int (zi x3))]) [1, 2, 0, 3] rfl rfl (by decide) d7_fieldsOf_35 ?_
    refine g_iinc hK (lv2 := fun v5 => [(0, .ref (Z.2.2.1 + 292)), (1, .int (zi a1)), (2, .int (zi v4)), (3, .int (zi v5))]) 3 rfl [1, 2, 3, 0] (fun _ => rfl) (by decide) d7_fieldsOf_36 (fun v5 hv5 => ?_)
    refine g_goto hK (tgt := 4) (by decide) d7_fieldsOf_39 ?_
    exact hk4 v4 v5  hv4 hv5
set_option maxRecDepth 20000 in
theorem l7_fieldsOf_4 {K : zK} {Z : zZ} (hcx : zOk K Z b7_fieldsOf RX7 4 (some .int) 0 8 0 0 ∧ ∀ x ∈ K.2.2.2.2.2.2.2.2.2.exceptionTable.toList, False) (a1 : Int) (μ : zM) (ha1 : zr a1) : ∀ (i9 : Nat) (x2 : Int) (x3 : Int) (hx2 : zr x2) (hx3 : zr x3), zG K Z (zΩ Z) (zF K Z (zΩ Z) (zeP mkI μ)) 0 0 4 [(0, .ref (Z.2.2.1 + 292)), (1, .int (zi a1)), (2, .int (zi x2)), (3, .int (zi x3))] [] μ (zfx (f7_fieldsOf_4 a1 μ) (fun _ _ => none) i9 x2 x3) := by
  intro i9
  induction i9 with
  | zero => intro x2 x3 hx2 hx3; exact g_none
  | succ i9 ih => intro x2 x3 hx2 hx3; exact p7_fieldsOf_4 hcx a1 μ ha1  (zfx (f7_fieldsOf_4 a1 μ) (fun _ _ => none) i9) ih x2 x3 hx2 hx3
set_option maxRecDepth 20000 in
theorem c7_fieldsOf (l : Launch) (hst : l.stackTraces = false) (Z : zZ) (a1 : Int) (μ : zM) (ha1 : zr a1) : ∀ x, f7_fieldsOf a1 μ = some x → zCt l Z (zΩ Z) y7_fieldsOf (zws (.code y7_fieldsOf b7_fieldsOf 4 (some .int))) rm7_fieldsOf [.ref (Z.2.2.1 + 292), .int (zi a1)] μ (zeP mkI μ x) := by
  intro x h
  refine zCt.of (enc := (zeP mkI μ)) h (by decide) hst (Nat.le_of_ble_eq_true rfl) (fun K hK0 hex hl _ => ?_)
  subst hl
  have hcx : zOk K Z b7_fieldsOf RX7 4 (some .int) 0 8 0 0 ∧ ∀ x ∈ K.2.2.2.2.2.2.2.2.2.exceptionTable.toList, False := ⟨hK0, hex⟩
  have hK := hcx.1
  show zG K Z (zΩ Z) (zF K Z (zΩ Z) (zeP mkI μ)) 0 0 0 [(0, .ref (Z.2.2.1 + 292)), (1, .int (zi a1))] [] μ (f7_fieldsOf a1 μ)
  unfold f7_fieldsOf
  refine g_iconst hK d7_fieldsOf_0 zki0 ?_
  refine g_istore_n hK (lv2 := [(0, .ref (Z.2.2.1 + 292)), (1, .int (zi a1)), (2, .int (zi 0))]) [1, 2, 0] rfl rfl (by decide) d7_fieldsOf_1 ?_
  refine g_iconst hK d7_fieldsOf_2 zki0 ?_
  refine g_istore_n hK (lv2 := [(0, .ref (Z.2.2.1 + 292)), (1, .int (zi a1)), (2, .int (zi 0)), (3, .int (zi 0))]) [1, 2, 3, 0] rfl rfl (by decide) d7_fieldsOf_3 ?_
  exact l7_fieldsOf_4 hcx a1 μ ha1  zFu 0 0  zc0 zc0
set_option maxRecDepth 20000 in
theorem p7_deepest_4 {K : zK} {Z : zZ} (hcx : zOk K Z b7_deepest RX7 4 (some .int) 1 23 0 0 ∧ ∀ x ∈ K.2.2.2.2.2.2.2.2.2.exceptionTable.toList, False) (a1 : Int) (μ : zM) (ha1 : zr a1) (k4 : Int → Int → Option Int) (hk4 : ∀ (x2 : Int) (x3 : Int) (hx2 : zr x2) (hx3 : zr x3), zG K Z (zΩ Z) (zF K Z (zΩ Z) (zeP mkI μ)) 0 0 4 [(0, .ref (Z.2.2.1 + 292)), (1, .int (zi a1)), (2, .int (zi x2)), (3, .int (zi x3))] [] μ (k4 x2 x3)) (x2 : Int) (x3 : Int) (hx2 : zr x2) (hx3 : zr x3) : zG K Z (zΩ Z) (zF K Z (zΩ Z) (zeP mkI μ)) 0 0 4 [(0, .ref (Z.2.2.1 + 292)), (1, .int (zi a1)), (2, .int (zi x2)), (3, .int (zi x3))] [] μ (f7_deepest_4 a1 μ k4 x2 x3) := by
  obtain ⟨hK, hex⟩ := id hcx
  unfold f7_deepest_4
  refine g_iload_n hK 3 rfl rfl d7_deepest_4 ?_
  refine g_aload_n hK 0 rfl rfl d7_deepest_5 ?_
  refine g_getM hK zfin_7 (fa_7_8 kc_292) q_1205 (w := 6) (by decide) d7_deepest_6 (fun hm1 => ?_)
  refine g_getRN hK zfin_6 (fa_6_6 hm1) qn_1149 (pt_6_occurrences hm1) d7_deepest_9 ?_
  refine g_iload_n hK 1 rfl rfl d7_deepest_12 ?_
  refine g_iald hK (pt_6_occurrences_k hm1) d7_deepest_13 (fun _ hl1 => ?_)
  refine g_icmp_ge hK hx3 hl1 (tgt := 42) (by decide) d7_deepest_14 (fun _ => ?_) (fun _ => ?_)
  · refine g_iload_n hK 2 rfl rfl d7_deepest_42 ?_
    exact g_iret hK hx2 rfl rfl d7_deepest_43
  · refine g_iload_n hK 2 rfl rfl d7_deepest_17 ?_
    refine g_aload_n hK 0 rfl rfl d7_deepest_18 ?_
    refine g_getM hK zfin_7 (fa_7_8 kc_292) q_1205 (w := 6) (by decide) d7_deepest_19 (fun hm2 => ?_)
    refine g_getRN hK zfin_6 (fa_6_13 hm2) qn_1163 (pt_6_deep hm2) d7_deepest_22 ?_
    refine g_bipush hK d7_deepest_25 zkb60 ?_
    refine g_iload_n hK 1 rfl rfl d7_deepest_27 ?_
    refine g_imul hK d7_deepest_28 (fun v1 hv1 => ?_)
    refine g_iload_n hK 3 rfl rfl d7_deepest_29 ?_
    refine g_iadd hK d7_deepest_30 (fun v2 hv2 => ?_)
    refine g_iald hK (pt_6_deep_k hm2) d7_deepest_31 (fun _ hl2 => ?_)
    refine g_mmax hK hx2 hl2 q_1443 q_839 q_13 q_840 (by decide) (Nat.le_of_ble_eq_true rfl) d7_deepest_32 (fun v3 hv3 => ?_)
    refine g_istore_n hK (lv2 := [(0, .ref (Z.2.2.1 + 292)), (1, .int (zi a1)), (2, .int (zi v3)), (3, .int (zi x3))]) [1, 2, 0, 3] rfl rfl (by decide) d7_deepest_35 ?_
    refine g_iinc hK (lv2 := fun v4 => [(0, .ref (Z.2.2.1 + 292)), (1, .int (zi a1)), (2, .int (zi v3)), (3, .int (zi v4))]) 3 rfl [1, 2, 3, 0] (fun _ => rfl) (by decide) d7_deepest_36 (fun v4 hv4 => ?_)
    refine g_goto hK (tgt := 4) (by decide) d7_deepest_39 ?_
    exact hk4 v3 v4  hv3 hv4
set_option maxRecDepth 20000 in
theorem l7_deepest_4 {K : zK} {Z : zZ} (hcx : zOk K Z b7_deepest RX7 4 (some .int) 1 23 0 0 ∧ ∀ x ∈ K.2.2.2.2.2.2.2.2.2.exceptionTable.toList, False) (a1 : Int) (μ : zM) (ha1 : zr a1) : ∀ (i9 : Nat) (x2 : Int) (x3 : Int) (hx2 : zr x2) (hx3 : zr x3), zG K Z (zΩ Z) (zF K Z (zΩ Z) (zeP mkI μ)) 0 0 4 [(0, .ref (Z.2.2.1 + 292)), (1, .int (zi a1)), (2, .int (zi x2)), (3, .int (zi x3))] [] μ (zfx (f7_deepest_4 a1 μ) (fun _ _ => none) i9 x2 x3) := by
  intro i9
  induction i9 with
  | zero => intro x2 x3 hx2 hx3; exact g_none
  | succ i9 ih => intro x2 x3 hx2 hx3; exact p7_deepest_4 hcx a1 μ ha1  (zfx (f7_deepest_4 a1 μ) (fun _ _ => none) i9) ih x2 x3 hx2 hx3
set_option maxRecDepth 20000 in
theorem c7_deepest (l : Launch) (hst : l.stackTraces = false) (Z : zZ) (a1 : Int) (μ : zM) (ha1 : zr a1) : ∀ x, f7_deepest a1 μ = some x → zCt l Z (zΩ Z) y7_deepest (zws (.code y7_deepest b7_deepest 4 (some .int))) rm7_deepest [.ref (Z.2.2.1 + 292), .int (zi a1)] μ (zeP mkI μ x) := by
  intro x h
  refine zCt.of (enc := (zeP mkI μ)) h (by decide) hst (Nat.le_of_ble_eq_true rfl) (fun K hK0 hex hl _ => ?_)
  subst hl
  have hcx : zOk K Z b7_deepest RX7 4 (some .int) 1 23 0 0 ∧ ∀ x ∈ K.2.2.2.2.2.2.2.2.2.exceptionTable.toList, False := ⟨hK0, hex⟩
  have hK := hcx.1
  show zG K Z (zΩ Z) (zF K Z (zΩ Z) (zeP mkI μ)) 0 0 0 [(0, .ref (Z.2.2.1 + 292)), (1, .int (zi a1))] [] μ (f7_deepest a1 μ)
  unfold f7_deepest
  refine g_iconst hK d7_deepest_0 zki0 ?_
  refine g_istore_n hK (lv2 := [(0, .ref (Z.2.2.1 + 292)), (1, .int (zi a1)), (2, .int (zi 0))]) [1, 2, 0] rfl rfl (by decide) d7_deepest_1 ?_
  refine g_iconst hK d7_deepest_2 zki0 ?_
  refine g_istore_n hK (lv2 := [(0, .ref (Z.2.2.1 + 292)), (1, .int (zi a1)), (2, .int (zi 0)), (3, .int (zi 0))]) [1, 2, 3, 0] rfl rfl (by decide) d7_deepest_3 ?_
  exact l7_deepest_4 hcx a1 μ ha1  zFu 0 0  zc0 zc0
set_option maxRecDepth 20000 in
theorem p7_defaults_4 {K : zK} {Z : zZ} (hcx : zOk K Z b7_defaults RX7 4 (some .int) 0 8 0 0 ∧ ∀ x ∈ K.2.2.2.2.2.2.2.2.2.exceptionTable.toList, False) (a1 : Int) (μ : zM) (ha1 : zr a1) (k4 : Int → Int → Option Int) (hk4 : ∀ (x2 : Int) (x3 : Int) (hx2 : zr x2) (hx3 : zr x3), zG K Z (zΩ Z) (zF K Z (zΩ Z) (zeP mkI μ)) 0 0 4 [(0, .ref (Z.2.2.1 + 292)), (1, .int (zi a1)), (2, .int (zi x2)), (3, .int (zi x3))] [] μ (k4 x2 x3)) (x2 : Int) (x3 : Int) (hx2 : zr x2) (hx3 : zr x3) : zG K Z (zΩ Z) (zF K Z (zΩ Z) (zeP mkI μ)) 0 0 4 [(0, .ref (Z.2.2.1 + 292)), (1, .int (zi a1)), (2, .int (zi x2)), (3, .int (zi x3))] [] μ (f7_defaults_4 a1 μ k4 x2 x3) := by
  obtain ⟨hK, hex⟩ := id hcx
  unfold f7_defaults_4
  refine g_iload_n hK 3 rfl rfl d7_defaults_4 ?_
  refine g_aload_n hK 0 rfl rfl d7_defaults_5 ?_
  refine g_getM hK zfin_7 (fa_7_8 kc_292) q_1205 (w := 6) (by decide) d7_defaults_6 (fun hm1 => ?_)
  refine g_getRN hK zfin_6 (fa_6_6 hm1) qn_1149 (pt_6_occurrences hm1) d7_defaults_9 ?_
  refine g_iload_n hK 1 rfl rfl d7_defaults_12 ?_
  refine g_iald hK (pt_6_occurrences_k hm1) d7_defaults_13 (fun _ hl1 => ?_)
  refine g_icmp_ge hK hx3 hl1 (tgt := 48) (by decide) d7_defaults_14 (fun _ => ?_) (fun _ => ?_)
  · refine g_iload_n hK 2 rfl rfl d7_defaults_48 ?_
    exact g_iret hK hx2 rfl rfl d7_defaults_49
  · refine g_iload_n hK 2 rfl rfl d7_defaults_17 ?_
    refine g_aload_n hK 0 rfl rfl d7_defaults_18 ?_
    refine g_getM hK zfin_7 (fa_7_8 kc_292) q_1205 (w := 6) (by decide) d7_defaults_19 (fun hm2 => ?_)
    refine g_getRN hK zfin_6 (fa_6_9 hm2) qn_1155 (pt_6_hasDefault hm2) d7_defaults_22 ?_
    refine g_bipush hK d7_defaults_25 zkb60 ?_
    refine g_iload_n hK 1 rfl rfl d7_defaults_27 ?_
    refine g_imul hK d7_defaults_28 (fun v1 hv1 => ?_)
    refine g_iload_n hK 3 rfl rfl d7_defaults_29 ?_
    refine g_iadd hK d7_defaults_30 (fun v2 hv2 => ?_)
    refine g_zald hK (pt_6_hasDefault_k hm2) d7_defaults_31 (fun _ hl2 => ?_)
    refine g_if_eq hK hl2 (tgt := 39) (by decide) d7_defaults_32 (fun _ => ?_) (fun _ => ?_)
    · refine g_iconst hK d7_defaults_39 zki0 ?_
      refine g_iadd hK d7_defaults_40 (fun v3 hv3 => ?_)
      refine g_istore_n hK (lv2 := [(0, .ref (Z.2.2.1 + 292)), (1, .int (zi a1)), (2, .int (zi v3)), (3, .int (zi x3))]) [1, 2, 0, 3] rfl rfl (by decide) d7_defaults_41 ?_
      refine g_iinc hK (lv2 := fun v4 => [(0, .ref (Z.2.2.1 + 292)), (1, .int (zi a1)), (2, .int (zi v3)), (3, .int (zi v4))]) 3 rfl [1, 2, 3, 0] (fun _ => rfl) (by decide) d7_defaults_42 (fun v4 hv4 => ?_)
      refine g_goto hK (tgt := 4) (by decide) d7_defaults_45 ?_
      exact hk4 v3 v4  hv3 hv4
    · refine g_iconst hK d7_defaults_35 zki1 ?_
      refine g_goto hK (tgt := 40) (by decide) d7_defaults_36 ?_
      refine g_iadd hK d7_defaults_40 (fun v5 hv5 => ?_)
      refine g_istore_n hK (lv2 := [(0, .ref (Z.2.2.1 + 292)), (1, .int (zi a1)), (2, .int (zi v5)), (3, .int (zi x3))]) [1, 2, 0, 3] rfl rfl (by decide) d7_defaults_41 ?_
      refine g_iinc hK (lv2 := fun v6 => [(0, .ref (Z.2.2.1 + 292)), (1, .int (zi a1)), (2, .int (zi v5)), (3, .int (zi v6))]) 3 rfl [1, 2, 3, 0] (fun _ => rfl) (by decide) d7_defaults_42 (fun v6 hv6 => ?_)
      refine g_goto hK (tgt := 4) (by decide) d7_defaults_45 ?_
      exact hk4 v5 v6  hv5 hv6
