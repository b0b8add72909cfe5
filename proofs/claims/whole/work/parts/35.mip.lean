set_option maxRecDepth 20000 in
theorem p7_expand_149 {K : zK} {Z : zZ} (hcx : zOk K Z b7_expand RX7 4 (some .int) 86 2220 0 0 ∧ ∀ x ∈ K.2.2.2.2.2.2.2.2.2.exceptionTable.toList, False) (a1 : Int) (ha1 : zr a1) (x3 : Int) (μ : zM) (hx3 : zr x3) : zG K Z (zΩ Z) (zF K Z (zΩ Z) (ze2 mkI)) 0 0 149 [(0, .ref (Z.2.2.1 + 292)), (3, .int (zi x3))] [] μ (f7_expand_149 a1 x3 μ) := by
  obtain ⟨hK, hex⟩ := id hcx
  unfold f7_expand_149
  refine g_aload_n hK 0 rfl rfl d7_expand_149 ?_
  refine g_iload_n hK 1 rfl rfl d7_expand_150 ?_
  refine g_aload_n hK 0 rfl rfl d7_expand_151 ?_
  refine g_getR hK zfin_7 (fa_7_1 kc_292) q_1198 (r := 293) (by decide +kernel) d7_expand_152 ?_
  refine g_iconst hK d7_expand_155 zki0 ?_
  refine g_iald hK kc_293 d7_expand_156 (fun _ hl6 => ?_)
  refine g_callVcl hK (mk := mkI) (rm := rm7_tells) (cb := 0) (sb := 0) (As := [.int (zi x3), .int (zi (zI μ 293 (zx 0)))]) (b := 292) (n := 2) (c7_tells K.2.1 hK.2.2.2.2.2.2.2.2.1 Z x3 (zI μ 293 (zx 0)) μ hx3 hl6) rfl (ci := 7) rfl (by decide) kc_292 q_1676 q_1678 qs_7_tells q_7 q_1679 rfl (by decide +kernel) (by decide) (Nat.le_of_ble_eq_true rfl) (Nat.le_of_ble_eq_true rfl) (Nat.le_of_ble_eq_true rfl) rfl d7_expand_157 (fun r6 m13 hr6 hpr6 => ?_)
  exact g_iret hK hpr6 rfl rfl d7_expand_160
set_option maxRecDepth 20000 in
theorem p7_expand_52 {K : zK} {Z : zZ} (hcx : zOk K Z b7_expand RX7 4 (some .int) 86 2220 0 0 ∧ ∀ x ∈ K.2.2.2.2.2.2.2.2.2.exceptionTable.toList, False) (a1 : Int) (ha1 : zr a1) (k52 : Int → Int → zM → Option (Int × zM)) (hk52 : ∀ (x2 : Int) (x3 : Int) (μ : zM) (hx2 : zr x2) (hx3 : zr x3), zG K Z (zΩ Z) (zF K Z (zΩ Z) (ze2 mkI)) 0 0 52 [(0, .ref (Z.2.2.1 + 292)), (1, .int (zi a1)), (2, .int (zi x2)), (3, .int (zi x3))] [] μ (k52 x2 x3 μ)) (x2 : Int) (x3 : Int) (μ : zM) (hx2 : zr x2) (hx3 : zr x3) : zG K Z (zΩ Z) (zF K Z (zΩ Z) (ze2 mkI)) 0 0 52 [(0, .ref (Z.2.2.1 + 292)), (1, .int (zi a1)), (2, .int (zi x2)), (3, .int (zi x3))] [] μ (f7_expand_52 a1 k52 x2 x3 μ) := by
  obtain ⟨hK, hex⟩ := id hcx
  unfold f7_expand_52
  refine g_iload_n hK 3 rfl rfl d7_expand_52 ?_
  refine g_sipush hK d7_expand_53 zks413 ?_
  refine g_icmp_ge hK hx3 zc413 (tgt := 74) (by decide) d7_expand_56 (fun _ => ?_) (fun _ => ?_)
  · refine g_aload_n hK 0 rfl rfl d7_expand_74 ?_
    refine g_getR hK zfin_7 (fa_7_1 kc_292) q_1198 (r := 293) (by decide +kernel) d7_expand_75 ?_
    refine g_iload_n hK 2 rfl rfl d7_expand_78 ?_
    refine g_iconst hK d7_expand_79 zki0 ?_
    refine g_iadd hK d7_expand_80 (fun v3 hv3 => ?_)
    refine g_iload_n hK 1 rfl rfl d7_expand_81 ?_
    refine g_iast hK ha1 kc_293 d7_expand_82 (fun _ => ?_)
    refine g_ltM (fun m5 => ?_)
    refine g_aload_n hK 0 rfl rfl d7_expand_83 ?_
    refine g_getR hK zfin_7 (fa_7_1 kc_292) q_1198 (r := 293) (by decide +kernel) d7_expand_84 ?_
    refine g_iconst hK d7_expand_87 zki0 ?_
    refine g_dup2 hK d7_expand_88 rfl rfl ?_
    refine g_iald hK kc_293 d7_expand_89 (fun _ hl3 => ?_)
    refine g_iconst hK d7_expand_90 zki1 ?_
    refine g_iadd hK d7_expand_91 (fun v4 hv4 => ?_)
    refine g_iast hK hv4 kc_293 d7_expand_92 (fun _ => ?_)
    refine g_ltM (fun m6 => ?_)
    refine g_aload_n hK 0 rfl rfl d7_expand_93 ?_
    refine g_aload_n hK 0 rfl rfl d7_expand_94 ?_
    refine g_getR hK zfin_7 (fa_7_1 kc_292) q_1198 (r := 293) (by decide +kernel) d7_expand_95 ?_
    refine g_iconst hK d7_expand_98 zki0 ?_
    refine g_iald hK kc_293 d7_expand_99 (fun _ hl4 => ?_)
    refine g_iconst hK d7_expand_100 zki1 ?_
    refine g_isub hK d7_expand_101 (fun v5 hv5 => ?_)
    refine g_callVcl hK (mk := mkZ) (rm := rm7_isTooLong) (cb := 0) (sb := 0) (As := [.int (zi v5)]) (b := 292) (n := 1) (c7_isTooLong K.2.1 hK.2.2.2.2.2.2.2.2.1 Z v5 m6 hv5) rfl (ci := 7) rfl (by decide) kc_292 q_1664 q_1666 qs_7_isTooLong q_7 q_1667 rfl (by decide +kernel) (by decide) (Nat.le_of_ble_eq_true rfl) (Nat.le_of_ble_eq_true rfl) (Nat.le_of_ble_eq_true rfl) rfl d7_expand_102 (fun r3 m7 hr3 hpr3 => ?_)
    refine g_if_eq hK (zb_r r3) (tgt := 114) (by decide) d7_expand_105 (fun _ => ?_) (fun _ => ?_)
    · refine g_aload_n hK 0 rfl rfl d7_expand_114 ?_
      refine g_callVcm hK (rm := rm7_laysLeaving) (cb := 0) (sb := 0) (As := []) (b := 292) (n := 0) (c7_laysLeaving K.2.1 hK.2.2.2.2.2.2.2.2.1 Z  m7 ) rfl (ci := 7) rfl (by decide) kc_292 q_1522 q_1524 qs_7_laysLeaving q_7 q_1525 rfl (by decide +kernel) (by decide) (Nat.le_of_ble_eq_true rfl) (Nat.le_of_ble_eq_true rfl) (Nat.le_of_ble_eq_true rfl) rfl d7_expand_115 (fun m8 hm8 => ?_)
      refine g_iconst hK d7_expand_118 zki0 ?_
      refine g_istore_n hK (lv2 := [(0, .ref (Z.2.2.1 + 292)), (1, .int (zi a1)), (2, .int (zi x2)), (3, .int (zi 0))]) [1, 2, 3, 0] rfl rfl (by decide) d7_expand_119 ?_
      refine g_aload_n hK 0 rfl rfl d7_expand_120 ?_
      refine g_getI hK zfin_7 (fa_7_33 kc_292) q_1230 d7_expand_121 (fun hf1 => ?_)
      refine g_if_ne hK hf1 (tgt := 135) (by decide) d7_expand_124 (fun _ => ?_) (fun _ => ?_)
      · refine g_aload_n hK 0 rfl rfl d7_expand_135 ?_
        refine g_getR hK zfin_7 (fa_7_1 kc_292) q_1198 (r := 293) (by decide +kernel) d7_expand_136 ?_
        refine g_iload_n hK 2 rfl rfl d7_expand_139 ?_
        refine g_iconst hK d7_expand_140 zki1 ?_
        refine g_iadd hK d7_expand_141 (fun v6 hv6 => ?_)
        refine g_aload_n hK 0 rfl rfl d7_expand_142 ?_
        refine g_getR hK zfin_7 (fa_7_32 kc_292) q_1229 (r := 336) (by decide +kernel) d7_expand_143 ?_
        refine g_iconst hK d7_expand_146 zki0 ?_
        refine g_iald hK kc_336 d7_expand_147 (fun _ hl5 => ?_)
        refine g_iast hK hl5 kc_293 d7_expand_148 (fun _ => ?_)
        refine g_ltM (fun m9 => ?_)
        refine g_lv (lv2 := [(0, .ref (Z.2.2.1 + 292)), (3, .int (zi 0))]) [0, 3] rfl ?_
        exact p7_expand_149 hcx a1 ha1  0 m9 zc0
      · refine g_aload_n hK 0 rfl rfl d7_expand_127 ?_
        refine g_callVcl hK (mk := mkI) (rm := rm7_ends) (cb := 0) (sb := 0) (As := []) (b := 292) (n := 0) (c7_ends K.2.1 hK.2.2.2.2.2.2.2.2.1 Z  m8 ) rfl (ci := 7) rfl (by decide) kc_292 q_1668 q_1670 qs_7_ends q_7 q_1671 rfl (by decide +kernel) (by decide) (Nat.le_of_ble_eq_true rfl) (Nat.le_of_ble_eq_true rfl) (Nat.le_of_ble_eq_true rfl) rfl d7_expand_128 (fun r4 m10 hr4 hpr4 => ?_)
        refine g_istore_n hK (lv2 := [(0, .ref (Z.2.2.1 + 292)), (1, .int (zi a1)), (2, .int (zi x2)), (3, .int (zi r4))]) [1, 2, 3, 0] rfl rfl (by decide) d7_expand_131 ?_
        refine g_goto hK (tgt := 149) (by decide) d7_expand_132 ?_
        refine g_lv (lv2 := [(0, .ref (Z.2.2.1 + 292)), (3, .int (zi r4))]) [0, 3] rfl ?_
        exact p7_expand_149 hcx a1 ha1  r4 m10 hpr4
    · refine g_aload_n hK 0 rfl rfl d7_expand_108 ?_
      refine g_iconst hK d7_expand_109 zki3 ?_
      refine g_callVcl hK (mk := mkI) (rm := rm7_refused) (cb := 0) (sb := 0) (As := [.int (zi 3)]) (b := 292) (n := 1) (c7_refused K.2.1 hK.2.2.2.2.2.2.2.2.1 Z 3 m7 zc3) rfl (ci := 7) rfl (by decide) kc_292 q_1660 q_1662 qs_7_refused q_7 q_1663 rfl (by decide +kernel) (by decide) (Nat.le_of_ble_eq_true rfl) (Nat.le_of_ble_eq_true rfl) (Nat.le_of_ble_eq_true rfl) rfl d7_expand_110 (fun r5 m11 hr5 hpr5 => ?_)
      exact g_iret hK hpr5 rfl rfl d7_expand_113
  · refine g_aload_n hK 0 rfl rfl d7_expand_59 ?_
    refine g_getR hK zfin_7 (fa_7_1 kc_292) q_1198 (r := 293) (by decide +kernel) d7_expand_60 ?_
    refine g_iload_n hK 2 rfl rfl d7_expand_63 ?_
    refine g_iload_n hK 3 rfl rfl d7_expand_64 ?_
    refine g_iadd hK d7_expand_65 (fun v7 hv7 => ?_)
    refine g_iconst hK d7_expand_66 zki0 ?_
    refine g_iast hK zc0 kc_293 d7_expand_67 (fun _ => ?_)
    refine g_ltM (fun m12 => ?_)
    refine g_iinc hK (lv2 := fun v8 => [(0, .ref (Z.2.2.1 + 292)), (1, .int (zi a1)), (2, .int (zi x2)), (3, .int (zi v8))]) 3 rfl [1, 2, 3, 0] (fun _ => rfl) (by decide) d7_expand_68 (fun v8 hv8 => ?_)
    refine g_goto hK (tgt := 52) (by decide) d7_expand_71 ?_
    exact hk52 x2 v8 m12 hx2 hv8
set_option maxRecDepth 20000 in
theorem l7_expand_52 {K : zK} {Z : zZ} (hcx : zOk K Z b7_expand RX7 4 (some .int) 86 2220 0 0 ∧ ∀ x ∈ K.2.2.2.2.2.2.2.2.2.exceptionTable.toList, False) (a1 : Int) (ha1 : zr a1) : ∀ (i9 : Nat) (x2 : Int) (x3 : Int) (μ : zM) (hx2 : zr x2) (hx3 : zr x3), zG K Z (zΩ Z) (zF K Z (zΩ Z) (ze2 mkI)) 0 0 52 [(0, .ref (Z.2.2.1 + 292)), (1, .int (zi a1)), (2, .int (zi x2)), (3, .int (zi x3))] [] μ (zfx (f7_expand_52 a1) (fun _ _ _ => none) i9 x2 x3 μ) := by
  intro i9
  induction i9 with
  | zero => intro x2 x3 μ hx2 hx3; exact g_none
  | succ i9 ih => intro x2 x3 μ hx2 hx3; exact p7_expand_52 hcx a1 ha1  (zfx (f7_expand_52 a1) (fun _ _ _ => none) i9) ih x2 x3 μ hx2 hx3
set_option maxRecDepth 20000 in
theorem c7_expand (l : Launch) (hst : l.stackTraces = false) (Z : zZ) (a1 : Int) (μ : zM) (ha1 : zr a1) : ∀ x, f7_expand a1 μ = some x → zCt l Z (zΩ Z) y7_expand (zws (.code y7_expand b7_expand 4 (some .int))) rm7_expand [.ref (Z.2.2.1 + 292), .int (zi a1)] μ (ze2 mkI x) := by
  intro x h
  refine zCt.of (enc := (ze2 mkI)) h (by decide) hst (Nat.le_of_ble_eq_true rfl) (fun K hK0 hex hl _ => ?_)
  subst hl
  have hcx : zOk K Z b7_expand RX7 4 (some .int) 86 2220 0 0 ∧ ∀ x ∈ K.2.2.2.2.2.2.2.2.2.exceptionTable.toList, False := ⟨hK0, hex⟩
  have hK := hcx.1
  show zG K Z (zΩ Z) (zF K Z (zΩ Z) (ze2 mkI)) 0 0 0 [(0, .ref (Z.2.2.1 + 292)), (1, .int (zi a1))] [] μ (f7_expand a1 μ)
  unfold f7_expand
  refine g_aload_n hK 0 rfl rfl d7_expand_0 ?_
  refine g_iconst hK d7_expand_1 zki0 ?_
  refine g_putI hK zfin_7 (fa_7_0 kc_292) q_1197 zc0 rfl (tyX7_ok 0 (by decide)) tyX7 tyX7_ok nmX7 d7_expand_2 ?_
  refine g_ltM (fun m1 => ?_)
  refine g_aload_n hK 0 rfl rfl d7_expand_5 ?_
  refine g_iload_n hK 1 rfl rfl d7_expand_6 ?_
  refine g_callVcl hK (mk := mkZ) (rm := rm7_noSnippet) (cb := 0) (sb := 0) (As := [.int (zi a1)]) (b := 292) (n := 1) (c7_noSnippet K.2.1 hK.2.2.2.2.2.2.2.2.1 Z a1 m1 ha1) rfl (ci := 7) rfl (by decide) kc_292 q_1431 q_1433 qs_7_noSnippet q_7 q_1434 rfl (by decide +kernel) (by decide) (Nat.le_of_ble_eq_true rfl) (Nat.le_of_ble_eq_true rfl) (Nat.le_of_ble_eq_true rfl) rfl d7_expand_7 (fun r1 m2 hr1 hpr1 => ?_)
  refine g_if_eq hK (zb_r r1) (tgt := 15) (by decide) d7_expand_10 (fun _ => ?_) (fun _ => ?_)
  · refine g_aload_n hK 0 rfl rfl d7_expand_15 ?_
    refine g_callVcm hK (rm := rm7_begins) (cb := 0) (sb := 0) (As := []) (b := 292) (n := 0) (c7_begins K.2.1 hK.2.2.2.2.2.2.2.2.1 Z  m2 ) rfl (ci := 7) rfl (by decide) kc_292 q_1656 q_1658 qs_7_begins q_7 q_1659 rfl (by decide +kernel) (by decide) (Nat.le_of_ble_eq_true rfl) (Nat.le_of_ble_eq_true rfl) (Nat.le_of_ble_eq_true rfl) rfl d7_expand_16 (fun m3 hm3 => ?_)
    refine g_aload_n hK 0 rfl rfl d7_expand_19 ?_
    refine g_getR hK zfin_7 (fa_7_1 kc_292) q_1198 (r := 293) (by decide +kernel) d7_expand_20 ?_
    refine g_iconst hK d7_expand_23 zki0 ?_
    refine g_iald hK kc_293 d7_expand_24 (fun _ hl1 => ?_)
    refine g_iconst hK d7_expand_25 zki4 ?_
    refine g_icmp_ne hK hl1 zc4 (tgt := 35) (by decide) d7_expand_26 (fun _ => ?_) (fun _ => ?_)
    · refine g_sipush hK d7_expand_35 zks604 ?_
      refine g_sipush hK d7_expand_38 zks413 ?_
      refine g_aload_n hK 0 rfl rfl d7_expand_41 ?_
      refine g_getR hK zfin_7 (fa_7_1 kc_292) q_1198 (r := 293) (by decide +kernel) d7_expand_42 ?_
      refine g_iconst hK d7_expand_45 zki0 ?_
      refine g_iald hK kc_293 d7_expand_46 (fun _ hl2 => ?_)
      refine g_imul hK d7_expand_47 (fun v1 hv1 => ?_)
      refine g_iadd hK d7_expand_48 (fun v2 hv2 => ?_)
      refine g_istore_n hK (lv2 := [(0, .ref (Z.2.2.1 + 292)), (1, .int (zi a1)), (2, .int (zi v2))]) [1, 2, 0] rfl rfl (by decide) d7_expand_49 ?_
      refine g_iconst hK d7_expand_50 zki0 ?_
      refine g_istore_n hK (lv2 := [(0, .ref (Z.2.2.1 + 292)), (1, .int (zi a1)), (2, .int (zi v2)), (3, .int (zi 0))]) [1, 2, 3, 0] rfl rfl (by decide) d7_expand_51 ?_
      exact l7_expand_52 hcx a1 ha1  zFu v2 0 m3 hv2 zc0
    · refine g_aload_n hK 0 rfl rfl d7_expand_29 ?_
      refine g_iconst hK d7_expand_30 zki2 ?_
      refine g_callVcl hK (mk := mkI) (rm := rm7_refused) (cb := 0) (sb := 0) (As := [.int (zi 2)]) (b := 292) (n := 1) (c7_refused K.2.1 hK.2.2.2.2.2.2.2.2.1 Z 2 m3 zc2) rfl (ci := 7) rfl (by decide) kc_292 q_1660 q_1662 qs_7_refused q_7 q_1663 rfl (by decide +kernel) (by decide) (Nat.le_of_ble_eq_true rfl) (Nat.le_of_ble_eq_true rfl) (Nat.le_of_ble_eq_true rfl) rfl d7_expand_31 (fun r2 m4 hr2 hpr2 => ?_)
      exact g_iret hK hpr2 rfl rfl d7_expand_34
  · refine g_iconst hK d7_expand_13 zki0 ?_
    exact g_iret hK zc0 rfl rfl d7_expand_14
set_option maxRecDepth 20000 in
theorem p7_type_139 {K : zK} {Z : zZ} (hcx : zOk K Z b7_type RX7 5 (some .int) 45 1157 0 0 ∧ ∀ x ∈ K.2.2.2.2.2.2.2.2.2.exceptionTable.toList, False) (a1 : Int) (ha1 : zr a1) (x2 : Int) (s0 : Int) (μ : zM) (hx2 : zr x2) (hs0 : zr s0) : zG K Z (zΩ Z) (zF K Z (zΩ Z) (ze2 mkI)) 0 0 139 [(0, .ref (Z.2.2.1 + 292)), (2, .int (zi x2))] [.int (zi s0)] μ (f7_type_139 a1 x2 s0 μ) := by
  obtain ⟨hK, hex⟩ := id hcx
  unfold f7_type_139
  refine g_istore_n hK (lv2 := [(0, .ref (Z.2.2.1 + 292)), (2, .int (zi x2)), (3, .int (zi s0))]) [1, 2, 0] rfl rfl (by decide) d7_type_139 ?_
  refine g_sipush hK d7_type_140 zks604 ?_
  refine g_sipush hK d7_type_143 zks413 ?_
  refine g_iload_n hK 1 rfl rfl d7_type_146 ?_
  refine g_imul hK d7_type_147 (fun v3 hv3 => ?_)
  refine g_iadd hK d7_type_148 (fun v4 hv4 => ?_)
  refine g_istore hK (lv2 := [(0, .ref (Z.2.2.1 + 292)), (2, .int (zi x2)), (3, .int (zi s0)), (4, .int (zi v4))]) [1, 2, 3, 0] rfl (by decide) d7_type_149 ?_
  refine g_aload_n hK 0 rfl rfl d7_type_151 ?_
  refine g_iload_n hK 2 rfl rfl d7_type_152 ?_
  refine g_aload_n hK 0 rfl rfl d7_type_153 ?_
  refine g_getR hK zfin_7 (fa_7_1 kc_292) q_1198 (r := 293) (by decide +kernel) d7_type_154 ?_
  refine g_iload hK 3 rfl d7_type_157 ?_
  refine g_iconst hK d7_type_159 zki3 ?_
  refine g_iadd hK d7_type_160 (fun v5 hv5 => ?_)
  refine g_aload_n hK 0 rfl rfl d7_type_161 ?_
  refine g_getR hK zfin_7 (fa_7_1 kc_292) q_1198 (r := 293) (by decide +kernel) d7_type_162 ?_
  refine g_iload hK 3 rfl d7_type_165 ?_
  refine g_iconst hK d7_type_167 zki1 ?_
  refine g_iadd hK d7_type_168 (fun v6 hv6 => ?_)
  refine g_iald hK kc_293 d7_type_169 (fun _ hl4 => ?_)
  refine g_iadd hK d7_type_170 (fun v7 hv7 => ?_)
  refine g_iald hK kc_293 d7_type_171 (fun _ hl5 => ?_)
  refine g_callVcl hK (mk := mkI) (rm := rm7_tells) (cb := 0) (sb := 0) (As := [.int (zi s0), .int (zi (zI μ 293 (zx v7)))]) (b := 292) (n := 2) (c7_tells K.2.1 hK.2.2.2.2.2.2.2.2.1 Z s0 (zI μ 293 (zx v7)) μ hs0 hl5) rfl (ci := 7) rfl (by decide) kc_292 q_1676 q_1678 qs_7_tells q_7 q_1679 rfl (by decide +kernel) (by decide) (Nat.le_of_ble_eq_true rfl) (Nat.le_of_ble_eq_true rfl) (Nat.le_of_ble_eq_true rfl) rfl d7_type_172 (fun r7 m10 hr7 hpr7 => ?_)
  exact g_iret hK hpr7 rfl rfl d7_type_175
set_option maxRecDepth 20000 in
theorem p7_type_53 {K : zK} {Z : zZ} (hcx : zOk K Z b7_type RX7 5 (some .int) 45 1157 0 0 ∧ ∀ x ∈ K.2.2.2.2.2.2.2.2.2.exceptionTable.toList, False) (a1 : Int) (ha1 : zr a1) (k53 : Int → zM → Option (Int × zM)) (hk53 : ∀ (x2 : Int) (μ : zM) (hx2 : zr x2), zG K Z (zΩ Z) (zF K Z (zΩ Z) (ze2 mkI)) 0 0 53 [(0, .ref (Z.2.2.1 + 292)), (1, .int (zi a1)), (2, .int (zi x2))] [] μ (k53 x2 μ)) (x2 : Int) (μ : zM) (hx2 : zr x2) : zG K Z (zΩ Z) (zF K Z (zΩ Z) (ze2 mkI)) 0 0 53 [(0, .ref (Z.2.2.1 + 292)), (1, .int (zi a1)), (2, .int (zi x2))] [] μ (f7_type_53 a1 k53 x2 μ) := by
  obtain ⟨hK, hex⟩ := id hcx
  unfold f7_type_53
  refine g_iload_n hK 2 rfl rfl d7_type_53 ?_
  refine g_iload_n hK 1 rfl rfl d7_type_54 ?_
  refine g_icmp_ge hK hx2 ha1 (tgt := 76) (by decide) d7_type_55 (fun _ => ?_) (fun _ => ?_)
  · refine g_aload_n hK 0 rfl rfl d7_type_76 ?_
    refine g_iconst hK d7_type_77 zki0 ?_
    refine g_putI hK zfin_7 (fa_7_10 kc_292) q_1207 zc0 rfl (tyX7_ok 10 (by decide)) tyX7 tyX7_ok nmX7 d7_type_78 ?_
    refine g_ltM (fun m4 => ?_)
    refine g_aload_n hK 0 rfl rfl d7_type_81 ?_
    refine g_callVcm hK (rm := rm7_begins) (cb := 0) (sb := 0) (As := []) (b := 292) (n := 0) (c7_begins K.2.1 hK.2.2.2.2.2.2.2.2.1 Z  m4 ) rfl (ci := 7) rfl (by decide) kc_292 q_1656 q_1658 qs_7_begins q_7 q_1659 rfl (by decide +kernel) (by decide) (Nat.le_of_ble_eq_true rfl) (Nat.le_of_ble_eq_true rfl) (Nat.le_of_ble_eq_true rfl) rfl d7_type_82 (fun m5 hm5 => ?_)
    refine g_aload_n hK 0 rfl rfl d7_type_85 ?_
    refine g_getR hK zfin_7 (fa_7_1 kc_292) q_1198 (r := 293) (by decide +kernel) d7_type_86 ?_
    refine g_iconst hK d7_type_89 zki0 ?_
    refine g_iald hK kc_293 d7_type_90 (fun _ hl1 => ?_)
    refine g_if_ne hK hl1 (tgt := 100) (by decide) d7_type_91 (fun _ => ?_) (fun _ => ?_)
    · refine g_aload_n hK 0 rfl rfl d7_type_100 ?_
      refine g_getR hK zfin_7 (fa_7_1 kc_292) q_1198 (r := 293) (by decide +kernel) d7_type_101 ?_
      refine g_iconst hK d7_type_104 zki0 ?_
      refine g_iald hK kc_293 d7_type_105 (fun _ hl2 => ?_)
      refine g_iconst hK d7_type_106 zki1 ?_
      refine g_isub hK d7_type_107 (fun v1 hv1 => ?_)
      refine g_istore_n hK (lv2 := [(0, .ref (Z.2.2.1 + 292)), (1, .int (zi a1)), (2, .int (zi v1))]) [1, 2, 0] rfl rfl (by decide) d7_type_108 ?_
      refine g_aload_n hK 0 rfl rfl d7_type_109 ?_
      refine g_iload_n hK 2 rfl rfl d7_type_110 ?_
      refine g_aload_n hK 0 rfl rfl d7_type_111 ?_
      refine g_getR hK zfin_7 (fa_7_35 kc_292) q_1232 (r := 338) (by decide +kernel) d7_type_112 ?_
      refine g_iload_n hK 1 rfl rfl d7_type_115 ?_
      refine g_callVcl hK (mk := mkZ) (rm := rm7_types) (cb := 0) (sb := 0) (As := [.int (zi v1), .ref (Z.2.2.1 + 338), .int (zi a1)]) (b := 292) (n := 3) (c7_types K.2.1 hK.2.2.2.2.2.2.2.2.1 Z v1 338 a1 m5 hv1 kc_338 ha1) rfl (ci := 7) rfl (by decide) kc_292 q_1672 q_1674 qs_7_types q_7 q_1675 rfl (by decide +kernel) (by decide) (Nat.le_of_ble_eq_true rfl) (Nat.le_of_ble_eq_true rfl) (Nat.le_of_ble_eq_true rfl) rfl d7_type_116 (fun r4 m6 hr4 hpr4 => ?_)
      refine g_if_ne hK (zb_r r4) (tgt := 126) (by decide) d7_type_119 (fun _ => ?_) (fun _ => ?_)
      · refine g_aload_n hK 0 rfl rfl d7_type_126 ?_
        refine g_iload_n hK 2 rfl rfl d7_type_127 ?_
        refine g_callVcl hK (mk := mkZ) (rm := rm7_isTooLong) (cb := 0) (sb := 0) (As := [.int (zi v1)]) (b := 292) (n := 1) (c7_isTooLong K.2.1 hK.2.2.2.2.2.2.2.2.1 Z v1 m6 hv1) rfl (ci := 7) rfl (by decide) kc_292 q_1664 q_1666 qs_7_isTooLong q_7 q_1667 rfl (by decide +kernel) (by decide) (Nat.le_of_ble_eq_true rfl) (Nat.le_of_ble_eq_true rfl) (Nat.le_of_ble_eq_true rfl) rfl d7_type_128 (fun r5 m7 hr5 hpr5 => ?_)
        refine g_if_eq hK (zb_r r5) (tgt := 138) (by decide) d7_type_131 (fun _ => ?_) (fun _ => ?_)
        · refine g_iconst hK d7_type_138 zki0 ?_
          refine g_lv (lv2 := [(0, .ref (Z.2.2.1 + 292)), (2, .int (zi v1))]) [0, 2] rfl ?_
          exact p7_type_139 hcx a1 ha1  v1 0 m7 hv1 zc0
        · refine g_iconst hK d7_type_134 zki3 ?_
          refine g_goto hK (tgt := 139) (by decide) d7_type_135 ?_
          refine g_lv (lv2 := [(0, .ref (Z.2.2.1 + 292)), (2, .int (zi v1))]) [0, 2] rfl ?_
          exact p7_type_139 hcx a1 ha1  v1 3 m7 hv1 zc3
      · refine g_iconst hK d7_type_122 zki4 ?_
        refine g_goto hK (tgt := 139) (by decide) d7_type_123 ?_
        refine g_lv (lv2 := [(0, .ref (Z.2.2.1 + 292)), (2, .int (zi v1))]) [0, 2] rfl ?_
        exact p7_type_139 hcx a1 ha1  v1 4 m6 hv1 zc4
    · refine g_aload_n hK 0 rfl rfl d7_type_94 ?_
      refine g_iconst hK d7_type_95 zki1 ?_
      refine g_callVcl hK (mk := mkI) (rm := rm7_refused) (cb := 0) (sb := 0) (As := [.int (zi 1)]) (b := 292) (n := 1) (c7_refused K.2.1 hK.2.2.2.2.2.2.2.2.1 Z 1 m5 zc1) rfl (ci := 7) rfl (by decide) kc_292 q_1660 q_1662 qs_7_refused q_7 q_1663 rfl (by decide +kernel) (by decide) (Nat.le_of_ble_eq_true rfl) (Nat.le_of_ble_eq_true rfl) (Nat.le_of_ble_eq_true rfl) rfl d7_type_96 (fun r6 m8 hr6 hpr6 => ?_)
      exact g_iret hK hpr6 rfl rfl d7_type_99
  · refine g_aload_n hK 0 rfl rfl d7_type_58 ?_
    refine g_getR hK zfin_7 (fa_7_35 kc_292) q_1232 (r := 338) (by decide +kernel) d7_type_59 ?_
    refine g_iload_n hK 2 rfl rfl d7_type_62 ?_
    refine g_aload_n hK 0 rfl rfl d7_type_63 ?_
    refine g_getR hK zfin_7 (fa_7_9 kc_292) q_1206 (r := 313) (by decide +kernel) d7_type_64 ?_
    refine g_iload_n hK 2 rfl rfl d7_type_67 ?_
    refine g_iald hK kc_313 d7_type_68 (fun _ hl3 => ?_)
    refine g_iast hK hl3 kc_338 d7_type_69 (fun _ => ?_)
    refine g_ltM (fun m9 => ?_)
    refine g_iinc hK (lv2 := fun v2 => [(0, .ref (Z.2.2.1 + 292)), (1, .int (zi a1)), (2, .int (zi v2))]) 2 rfl [1, 2, 0] (fun _ => rfl) (by decide) d7_type_70 (fun v2 hv2 => ?_)
    refine g_goto hK (tgt := 53) (by decide) d7_type_73 ?_
    exact hk53 v2 m9 hv2
set_option maxRecDepth 20000 in
theorem l7_type_53 {K : zK} {Z : zZ} (hcx : zOk K Z b7_type RX7 5 (some .int) 45 1157 0 0 ∧ ∀ x ∈ K.2.2.2.2.2.2.2.2.2.exceptionTable.toList, False) (a1 : Int) (ha1 : zr a1) : ∀ (i9 : Nat) (x2 : Int) (μ : zM) (hx2 : zr x2), zG K Z (zΩ Z) (zF K Z (zΩ Z) (ze2 mkI)) 0 0 53 [(0, .ref (Z.2.2.1 + 292)), (1, .int (zi a1)), (2, .int (zi x2))] [] μ (zfx (f7_type_53 a1) (fun _ _ => none) i9 x2 μ) := by
  intro i9
  induction i9 with
  | zero => intro x2 μ hx2; exact g_none
  | succ i9 ih => intro x2 μ hx2; exact p7_type_53 hcx a1 ha1  (zfx (f7_type_53 a1) (fun _ _ => none) i9) ih x2 μ hx2
set_option maxRecDepth 20000 in
theorem p7_type_42 {K : zK} {Z : zZ} (hcx : zOk K Z b7_type RX7 5 (some .int) 45 1157 0 0 ∧ ∀ x ∈ K.2.2.2.2.2.2.2.2.2.exceptionTable.toList, False) (a1 : Int) (ha1 : zr a1) (s0 : Int) (μ : zM) (hs0 : zr s0) : zG K Z (zΩ Z) (zF K Z (zΩ Z) (ze2 mkI)) 0 0 42 [(0, .ref (Z.2.2.1 + 292)), (1, .int (zi a1))] [.int (zi s0), .ref (Z.2.2.1 + 292)] μ (f7_type_42 a1 s0 μ) := by
  obtain ⟨hK, hex⟩ := id hcx
  unfold f7_type_42
  refine g_iconst hK d7_type_42 zki2 ?_
  refine g_callVcl hK (mk := mkZ) (rm := rm7_throwsIf) (cb := 0) (sb := 0) (As := [.int (zi s0), .int (zi 2)]) (b := 292) (n := 2) (c7_throwsIf K.2.1 hK.2.2.2.2.2.2.2.2.1 Z s0 2 μ hs0 zc2) rfl (ci := 7) rfl (by decide) kc_292 q_1317 q_1319 qs_7_throwsIf q_7 q_1320 rfl (by decide +kernel) (by decide) (Nat.le_of_ble_eq_true rfl) (Nat.le_of_ble_eq_true rfl) (Nat.le_of_ble_eq_true rfl) rfl d7_type_43 (fun r3 m3 hr3 hpr3 => ?_)
  refine g_if_eq hK (zb_r r3) (tgt := 51) (by decide) d7_type_46 (fun _ => ?_) (fun _ => ?_)
  · refine g_iconst hK d7_type_51 zki0 ?_
    refine g_istore_n hK (lv2 := [(0, .ref (Z.2.2.1 + 292)), (1, .int (zi a1)), (2, .int (zi 0))]) [1, 2, 0] rfl rfl (by decide) d7_type_52 ?_
    exact l7_type_53 hcx a1 ha1  zFu 0 m3 zc0
  · refine g_iconst hK d7_type_49 zki0 ?_
    exact g_iret hK zc0 rfl rfl d7_type_50
set_option maxRecDepth 20000 in
theorem p7_type_21 {K : zK} {Z : zZ} (hcx : zOk K Z b7_type RX7 5 (some .int) 45 1157 0 0 ∧ ∀ x ∈ K.2.2.2.2.2.2.2.2.2.exceptionTable.toList, False) (a1 : Int) (ha1 : zr a1) (s0 : Int) (μ : zM) (hs0 : zr s0) : zG K Z (zΩ Z) (zF K Z (zΩ Z) (ze2 mkI)) 0 0 21 [(0, .ref (Z.2.2.1 + 292)), (1, .int (zi a1))] [.int (zi s0), .ref (Z.2.2.1 + 292)] μ (f7_type_21 a1 s0 μ) := by
  obtain ⟨hK, hex⟩ := id hcx
  unfold f7_type_21
  refine g_iconst hK d7_type_21 zki1 ?_
  refine g_callVcl hK (mk := mkZ) (rm := rm7_throwsIf) (cb := 0) (sb := 0) (As := [.int (zi s0), .int (zi 1)]) (b := 292) (n := 2) (c7_throwsIf K.2.1 hK.2.2.2.2.2.2.2.2.1 Z s0 1 μ hs0 zc1) rfl (ci := 7) rfl (by decide) kc_292 q_1317 q_1319 qs_7_throwsIf q_7 q_1320 rfl (by decide +kernel) (by decide) (Nat.le_of_ble_eq_true rfl) (Nat.le_of_ble_eq_true rfl) (Nat.le_of_ble_eq_true rfl) rfl d7_type_22 (fun r2 m2 hr2 hpr2 => ?_)
  refine g_if_ne hK (zb_r r2) (tgt := 49) (by decide) d7_type_25 (fun _ => ?_) (fun _ => ?_)
  · refine g_iconst hK d7_type_49 zki0 ?_
    exact g_iret hK zc0 rfl rfl d7_type_50
  · refine g_aload_n hK 0 rfl rfl d7_type_28 ?_
    refine g_aload_n hK 0 rfl rfl d7_type_29 ?_
    refine g_getI hK zfin_7 (fa_7_10 kc_292) q_1207 d7_type_30 (fun hf1 => ?_)
    refine g_iload_n hK 1 rfl rfl d7_type_33 ?_
    refine g_icmp_ge hK hf1 ha1 (tgt := 41) (by decide) d7_type_34 (fun _ => ?_) (fun _ => ?_)
    · refine g_iconst hK d7_type_41 zki0 ?_
      exact p7_type_42 hcx a1 ha1  0 m2 zc0
    · refine g_iconst hK d7_type_37 zki1 ?_
      refine g_goto hK (tgt := 42) (by decide) d7_type_38 ?_
      exact p7_type_42 hcx a1 ha1  1 m2 zc1
set_option maxRecDepth 20000 in
theorem c7_type (l : Launch) (hst : l.stackTraces = false) (Z : zZ) (a1 : Int) (μ : zM) (ha1 : zr a1) : ∀ x, f7_type a1 μ = some x → zCt l Z (zΩ Z) y7_type (zws (.code y7_type b7_type 5 (some .int))) rm7_type [.ref (Z.2.2.1 + 292), .int (zi a1)] μ (ze2 mkI x) := by
  intro x h
  refine zCt.of (enc := (ze2 mkI)) h (by decide) hst (Nat.le_of_ble_eq_true rfl) (fun K hK0 hex hl _ => ?_)
  subst hl
  have hcx : zOk K Z b7_type RX7 5 (some .int) 45 1157 0 0 ∧ ∀ x ∈ K.2.2.2.2.2.2.2.2.2.exceptionTable.toList, False := ⟨hK0, hex⟩
  have hK := hcx.1
  show zG K Z (zΩ Z) (zF K Z (zΩ Z) (ze2 mkI)) 0 0 0 [(0, .ref (Z.2.2.1 + 292)), (1, .int (zi a1))] [] μ (f7_type a1 μ)
  unfold f7_type
  refine g_aload_n hK 0 rfl rfl d7_type_0 ?_
  refine g_iconst hK d7_type_1 zki0 ?_
  refine g_putI hK zfin_7 (fa_7_0 kc_292) q_1197 zc0 rfl (tyX7_ok 0 (by decide)) tyX7 tyX7_ok nmX7 d7_type_2 ?_
  refine g_ltM (fun m1 => ?_)
  refine g_aload_n hK 0 rfl rfl d7_type_5 ?_
  refine g_iload_n hK 1 rfl rfl d7_type_6 ?_
  refine g_iconst hK d7_type_7 zki1 ?_
  refine g_bipush hK d7_type_8 zkb20 ?_
  refine g_callSco hK (mk := mkZ) (rm := rm7_within) (cb := 0) (sb := 0) (As := [.int (zi a1), .int (zi 1), .int (zi 20)]) (n := 3) (c7_within K.2.1 hK.2.2.2.2.2.2.2.2.1 Z a1 1 20 m1 ha1 zc1 zc20) q_1344 q_1345 q_7 q_1346 rfl (by decide +kernel) (by decide) (Nat.le_of_ble_eq_true rfl) (Nat.le_of_ble_eq_true rfl) (Nat.le_of_ble_eq_true rfl) rfl d7_type_10 (fun r1 hr1 hpr1 => ?_)
  refine g_if_ne hK (zb_r r1) (tgt := 20) (by decide) d7_type_13 (fun _ => ?_) (fun _ => ?_)
  · refine g_iconst hK d7_type_20 zki0 ?_
    exact p7_type_21 hcx a1 ha1  0 m1 zc0
  · refine g_iconst hK d7_type_16 zki1 ?_
    refine g_goto hK (tgt := 21) (by decide) d7_type_17 ?_
    exact p7_type_21 hcx a1 ha1  1 m1 zc1
set_option maxRecDepth 20000 in
theorem p7_erase_158 {K : zK} {Z : zZ} (hcx : zOk K Z b7_erase RX7 5 (some .int) 84 2175 0 0 ∧ ∀ x ∈ K.2.2.2.2.2.2.2.2.2.exceptionTable.toList, False) (x3 : Int) (s0 : Int) (μ : zM) (hx3 : zr x3) (hs0 : zr s0) : zG K Z (zΩ Z) (zF K Z (zΩ Z) (ze2 mkI)) 0 0 158 [(0, .ref (Z.2.2.1 + 292)), (3, .int (zi x3))] [.int (zi s0)] μ (f7_erase_158 x3 s0 μ) := by
  obtain ⟨hK, hex⟩ := id hcx
  unfold f7_erase_158
  refine g_istore hK (lv2 := [(0, .ref (Z.2.2.1 + 292)), (3, .int (zi x3)), (4, .int (zi s0))]) [1, 2, 0] rfl (by decide) d7_erase_158 ?_
  refine g_aload_n hK 0 rfl rfl d7_erase_160 ?_
  refine g_iload hK 2 rfl d7_erase_161 ?_
  refine g_iload_n hK 1 rfl rfl d7_erase_163 ?_
  refine g_callVcl hK (mk := mkI) (rm := rm7_tells) (cb := 0) (sb := 0) (As := [.int (zi s0), .int (zi x3)]) (b := 292) (n := 2) (c7_tells K.2.1 hK.2.2.2.2.2.2.2.2.1 Z s0 x3 μ hs0 hx3) rfl (ci := 7) rfl (by decide) kc_292 q_1676 q_1678 qs_7_tells q_7 q_1679 rfl (by decide +kernel) (by decide) (Nat.le_of_ble_eq_true rfl) (Nat.le_of_ble_eq_true rfl) (Nat.le_of_ble_eq_true rfl) rfl d7_erase_164 (fun r5 m12 hr5 hpr5 => ?_)
  exact g_iret hK hpr5 rfl rfl d7_erase_167
set_option maxRecDepth 20000 in
theorem p7_erase_83 {K : zK} {Z : zZ} (hcx : zOk K Z b7_erase RX7 5 (some .int) 84 2175 0 0 ∧ ∀ x ∈ K.2.2.2.2.2.2.2.2.2.exceptionTable.toList, False) (k83 : Int → Int → Int → Int → zM → Option (Int × zM)) (hk83 : ∀ (x1 : Int) (x2 : Int) (x3 : Int) (x4 : Int) (μ : zM) (hx1 : zr x1) (hx2 : zr x2) (hx3 : zr x3) (hx4 : zr x4), zG K Z (zΩ Z) (zF K Z (zΩ Z) (ze2 mkI)) 0 0 83 [(0, .ref (Z.2.2.1 + 292)), (1, .int (zi x1)), (2, .int (zi x2)), (3, .int (zi x3)), (4, .int (zi x4))] [] μ (k83 x1 x2 x3 x4 μ)) (x1 : Int) (x2 : Int) (x3 : Int) (x4 : Int) (μ : zM) (hx1 : zr x1) (hx2 : zr x2) (hx3 : zr x3) (hx4 : zr x4) : zG K Z (zΩ Z) (zF K Z (zΩ Z) (ze2 mkI)) 0 0 83 [(0, .ref (Z.2.2.1 + 292)), (1, .int (zi x1)), (2, .int (zi x2)), (3, .int (zi x3)), (4, .int (zi x4))] [] μ (f7_erase_83 k83 x1 x2 x3 x4 μ) := by
  obtain ⟨hK, hex⟩ := id hcx
  unfold f7_erase_83
  refine g_iload hK 4 rfl d7_erase_83 ?_
  refine g_iload_n hK 3 rfl rfl d7_erase_85 ?_
  refine g_icmp_ge hK hx4 hx3 (tgt := 109) (by decide) d7_erase_86 (fun _ => ?_) (fun _ => ?_)
  · refine g_aload_n hK 0 rfl rfl d7_erase_109 ?_
    refine g_getR hK zfin_7 (fa_7_1 kc_292) q_1198 (r := 293) (by decide +kernel) d7_erase_110 ?_
    refine g_aload_n hK 0 rfl rfl d7_erase_113 ?_
    refine g_getI hK zfin_7 (fa_7_22 kc_292) q_1219 d7_erase_114 (fun hf4 => ?_)
    refine g_iconst hK d7_erase_117 zki2 ?_
    refine g_iadd hK d7_erase_118 (fun v5 hv5 => ?_)
    refine g_dup2 hK d7_erase_119 rfl rfl ?_
    refine g_iald hK kc_293 d7_erase_120 (fun _ hl4 => ?_)
    refine g_iconst hK d7_erase_121 zki1 ?_
    refine g_iload_n hK 2 rfl rfl d7_erase_122 ?_
    refine g_ishl hK d7_erase_123 (fun v6 hv6 => ?_)
    refine g_iconst hK d7_erase_124 zkim1 ?_
    refine g_ixor hK d7_erase_125 (fun v7 hv7 => ?_)
    refine g_iand hK d7_erase_126 (fun v8 hv8 => ?_)
    refine g_iast hK hv8 kc_293 d7_erase_127 (fun _ => ?_)
    refine g_ltM (fun m8 => ?_)
    refine g_aload_n hK 0 rfl rfl d7_erase_128 ?_
    refine g_iload_n hK 1 rfl rfl d7_erase_129 ?_
    refine g_aload_n hK 0 rfl rfl d7_erase_130 ?_
    refine g_getR hK zfin_7 (fa_7_35 kc_292) q_1232 (r := 338) (by decide +kernel) d7_erase_131 ?_
    refine g_iload_n hK 3 rfl rfl d7_erase_134 ?_
    refine g_callVcl hK (mk := mkZ) (rm := rm7_types) (cb := 0) (sb := 0) (As := [.int (zi x1), .ref (Z.2.2.1 + 338), .int (zi x3)]) (b := 292) (n := 3) (c7_types K.2.1 hK.2.2.2.2.2.2.2.2.1 Z x1 338 x3 m8 hx1 kc_338 hx3) rfl (ci := 7) rfl (by decide) kc_292 q_1672 q_1674 qs_7_types q_7 q_1675 rfl (by decide +kernel) (by decide) (Nat.le_of_ble_eq_true rfl) (Nat.le_of_ble_eq_true rfl) (Nat.le_of_ble_eq_true rfl) rfl d7_erase_135 (fun r3 m9 hr3 hpr3 => ?_)
    refine g_if_ne hK (zb_r r3) (tgt := 145) (by decide) d7_erase_138 (fun _ => ?_) (fun _ => ?_)
    · refine g_aload_n hK 0 rfl rfl d7_erase_145 ?_
      refine g_iload_n hK 1 rfl rfl d7_erase_146 ?_
      refine g_callVcl hK (mk := mkZ) (rm := rm7_isTooLong) (cb := 0) (sb := 0) (As := [.int (zi x1)]) (b := 292) (n := 1) (c7_isTooLong K.2.1 hK.2.2.2.2.2.2.2.2.1 Z x1 m9 hx1) rfl (ci := 7) rfl (by decide) kc_292 q_1664 q_1666 qs_7_isTooLong q_7 q_1667 rfl (by decide +kernel) (by decide) (Nat.le_of_ble_eq_true rfl) (Nat.le_of_ble_eq_true rfl) (Nat.le_of_ble_eq_true rfl) rfl d7_erase_147 (fun r4 m10 hr4 hpr4 => ?_)
      refine g_if_eq hK (zb_r r4) (tgt := 157) (by decide) d7_erase_150 (fun _ => ?_) (fun _ => ?_)
      · refine g_iconst hK d7_erase_157 zki0 ?_
        refine g_lv (lv2 := [(0, .ref (Z.2.2.1 + 292)), (3, .int (zi x3))]) [0, 3] rfl ?_
        exact p7_erase_158 hcx  x3 0 m10 hx3 zc0
      · refine g_iconst hK d7_erase_153 zki3 ?_
        refine g_goto hK (tgt := 158) (by decide) d7_erase_154 ?_
        refine g_lv (lv2 := [(0, .ref (Z.2.2.1 + 292)), (3, .int (zi x3))]) [0, 3] rfl ?_
        exact p7_erase_158 hcx  x3 3 m10 hx3 zc3
    · refine g_iconst hK d7_erase_141 zki4 ?_
      refine g_goto hK (tgt := 158) (by decide) d7_erase_142 ?_
      refine g_lv (lv2 := [(0, .ref (Z.2.2.1 + 292)), (3, .int (zi x3))]) [0, 3] rfl ?_
      exact p7_erase_158 hcx  x3 4 m9 hx3 zc4
  · refine g_aload_n hK 0 rfl rfl d7_erase_89 ?_
    refine g_getR hK zfin_7 (fa_7_35 kc_292) q_1232 (r := 338) (by decide +kernel) d7_erase_90 ?_
    refine g_iload hK 4 rfl d7_erase_93 ?_
    refine g_aload_n hK 0 rfl rfl d7_erase_95 ?_
    refine g_getR hK zfin_7 (fa_7_28 kc_292) q_1225 (r := 333) (by decide +kernel) d7_erase_96 ?_
    refine g_iload hK 4 rfl d7_erase_99 ?_
    refine g_iald hK kc_333 d7_erase_101 (fun _ hl5 => ?_)
    refine g_iast hK hl5 kc_338 d7_erase_102 (fun _ => ?_)
    refine g_ltM (fun m11 => ?_)
    refine g_iinc hK (lv2 := fun v9 => [(0, .ref (Z.2.2.1 + 292)), (1, .int (zi x1)), (2, .int (zi x2)), (3, .int (zi x3)), (4, .int (zi v9))]) 4 rfl [1, 2, 3, 4, 0] (fun _ => rfl) (by decide) d7_erase_103 (fun v9 hv9 => ?_)
    refine g_goto hK (tgt := 83) (by decide) d7_erase_106 ?_
    exact hk83 x1 x2 x3 v9 m11 hx1 hx2 hx3 hv9
set_option maxRecDepth 20000 in
theorem l7_erase_83 {K : zK} {Z : zZ} (hcx : zOk K Z b7_erase RX7 5 (some .int) 84 2175 0 0 ∧ ∀ x ∈ K.2.2.2.2.2.2.2.2.2.exceptionTable.toList, False) : ∀ (i9 : Nat) (x1 : Int) (x2 : Int) (x3 : Int) (x4 : Int) (μ : zM) (hx1 : zr x1) (hx2 : zr x2) (hx3 : zr x3) (hx4 : zr x4), zG K Z (zΩ Z) (zF K Z (zΩ Z) (ze2 mkI)) 0 0 83 [(0, .ref (Z.2.2.1 + 292)), (1, .int (zi x1)), (2, .int (zi x2)), (3, .int (zi x3)), (4, .int (zi x4))] [] μ (zfx (f7_erase_83) (fun _ _ _ _ _ => none) i9 x1 x2 x3 x4 μ) := by
  intro i9
  induction i9 with
  | zero => intro x1 x2 x3 x4 μ hx1 hx2 hx3 hx4; exact g_none
  | succ i9 ih => intro x1 x2 x3 x4 μ hx1 hx2 hx3 hx4; exact p7_erase_83 hcx  (zfx (f7_erase_83) (fun _ _ _ _ _ => none) i9) ih x1 x2 x3 x4 μ hx1 hx2 hx3 hx4
set_option maxRecDepth 20000 in
theorem c7_erase (l : Launch) (hst : l.stackTraces = false) (Z : zZ) (μ : zM) : ∀ x, f7_erase μ = some x → zCt l Z (zΩ Z) y7_erase (zws (.code y7_erase b7_erase 5 (some .int))) rm7_erase [.ref (Z.2.2.1 + 292)] μ (ze2 mkI x) := by
  intro x h
  refine zCt.of (enc := (ze2 mkI)) h (by decide) hst (Nat.le_of_ble_eq_true rfl) (fun K hK0 hex hl _ => ?_)
  subst hl
  have hcx : zOk K Z b7_erase RX7 5 (some .int) 84 2175 0 0 ∧ ∀ x ∈ K.2.2.2.2.2.2.2.2.2.exceptionTable.toList, False := ⟨hK0, hex⟩
  have hK := hcx.1
  show zG K Z (zΩ Z) (zF K Z (zΩ Z) (ze2 mkI)) 0 0 0 [(0, .ref (Z.2.2.1 + 292))] [] μ (f7_erase μ)
  unfold f7_erase
  refine g_aload_n hK 0 rfl rfl d7_erase_0 ?_
  refine g_iconst hK d7_erase_1 zki0 ?_
  refine g_putI hK zfin_7 (fa_7_0 kc_292) q_1197 zc0 rfl (tyX7_ok 0 (by decide)) tyX7 tyX7_ok nmX7 d7_erase_2 ?_
  refine g_ltM (fun m1 => ?_)
  refine g_aload_n hK 0 rfl rfl d7_erase_5 ?_
  refine g_callVcm hK (rm := rm7_begins) (cb := 0) (sb := 0) (As := []) (b := 292) (n := 0) (c7_begins K.2.1 hK.2.2.2.2.2.2.2.2.1 Z  m1 ) rfl (ci := 7) rfl (by decide) kc_292 q_1656 q_1658 qs_7_begins q_7 q_1659 rfl (by decide +kernel) (by decide) (Nat.le_of_ble_eq_true rfl) (Nat.le_of_ble_eq_true rfl) (Nat.le_of_ble_eq_true rfl) rfl d7_erase_6 (fun m2 hm2 => ?_)
  refine g_aload_n hK 0 rfl rfl d7_erase_9 ?_
  refine g_getR hK zfin_7 (fa_7_1 kc_292) q_1198 (r := 293) (by decide +kernel) d7_erase_10 ?_
  refine g_iconst hK d7_erase_13 zki0 ?_
  refine g_iald hK kc_293 d7_erase_14 (fun _ hl1 => ?_)
  refine g_if_ne hK hl1 (tgt := 24) (by decide) d7_erase_15 (fun _ => ?_) (fun _ => ?_)
  · refine g_aload_n hK 0 rfl rfl d7_erase_24 ?_
    refine g_getR hK zfin_7 (fa_7_1 kc_292) q_1198 (r := 293) (by decide +kernel) d7_erase_25 ?_
    refine g_iconst hK d7_erase_28 zki0 ?_
    refine g_iald hK kc_293 d7_erase_29 (fun _ hl2 => ?_)
    refine g_iconst hK d7_erase_30 zki1 ?_
    refine g_isub hK d7_erase_31 (fun v1 hv1 => ?_)
    refine g_istore_n hK (lv2 := [(0, .ref (Z.2.2.1 + 292)), (1, .int (zi v1))]) [1, 0] rfl rfl (by decide) d7_erase_32 ?_
    refine g_aload_n hK 0 rfl rfl d7_erase_33 ?_
    refine g_iload_n hK 1 rfl rfl d7_erase_34 ?_
    refine g_callVcm hK (rm := rm7_lays) (cb := 0) (sb := 0) (As := [.int (zi v1)]) (b := 292) (n := 1) (c7_lays K.2.1 hK.2.2.2.2.2.2.2.2.1 Z v1 m2 hv1) rfl (ci := 7) rfl (by decide) kc_292 q_1467 q_1469 qs_7_lays q_7 q_1470 rfl (by decide +kernel) (by decide) (Nat.le_of_ble_eq_true rfl) (Nat.le_of_ble_eq_true rfl) (Nat.le_of_ble_eq_true rfl) rfl d7_erase_35 (fun m3 hm3 => ?_)
    refine g_aload_n hK 0 rfl rfl d7_erase_38 ?_
    refine g_getR hK zfin_7 (fa_7_1 kc_292) q_1198 (r := 293) (by decide +kernel) d7_erase_39 ?_
    refine g_aload_n hK 0 rfl rfl d7_erase_42 ?_
    refine g_getI hK zfin_7 (fa_7_22 kc_292) q_1219 d7_erase_43 (fun hf1 => ?_)
    refine g_iconst hK d7_erase_46 zki1 ?_
    refine g_iadd hK d7_erase_47 (fun v2 hv2 => ?_)
    refine g_iald hK kc_293 d7_erase_48 (fun _ hl3 => ?_)
    refine g_ltI hl3 (fun v3 hv3 => ?_)
    refine g_istore_n hK (lv2 := [(0, .ref (Z.2.2.1 + 292)), (1, .int (zi v1)), (2, .int (zi v3))]) [1, 2, 0] rfl rfl (by decide) d7_erase_49 ?_
    refine g_aload_n hK 0 rfl rfl d7_erase_50 ?_
    refine g_iconst hK d7_erase_51 zki0 ?_
    refine g_putI hK zfin_7 (fa_7_29 kc_292) q_1226 zc0 rfl (tyX7_ok 29 (by decide)) tyX7 tyX7_ok nmX7 d7_erase_52 ?_
    refine g_ltM (fun m4 => ?_)
    refine g_aload_n hK 0 rfl rfl d7_erase_55 ?_
    refine g_iload_n hK 2 rfl rfl d7_erase_56 ?_
    refine g_callVcm hK (rm := (rmGB 40)) (cb := 0) (sb := 0) (As := [.int (zi v3)]) (b := 292) (n := 1) (c7_writesValue 40 K.2.1 hK.2.2.2.2.2.2.2.2.1 Z v3 m4 hv3) rfl (ci := 7) rfl (by decide) kc_292 q_1550 q_1552 qs_7_writesValue q_7 q_1553 rfl (by decide +kernel) (by decide) (Nat.le_of_ble_eq_true rfl) (Nat.le_of_ble_eq_true rfl) (Nat.le_of_ble_eq_true rfl) rfl d7_erase_57 (fun m5 hm5 => ?_)
    refine g_aload_n hK 0 rfl rfl d7_erase_60 ?_
    refine g_getI hK zfin_7 (fa_7_29 kc_292) q_1226 d7_erase_61 (fun hf2 => ?_)
    refine g_if_ne hK hf2 (tgt := 73) (by decide) d7_erase_64 (fun _ => ?_) (fun _ => ?_)
    · refine g_aload_n hK 0 rfl rfl d7_erase_73 ?_
      refine g_getI hK zfin_7 (fa_7_29 kc_292) q_1226 d7_erase_74 (fun hf3 => ?_)
      refine g_iconst hK d7_erase_77 zki1 ?_
      refine g_isub hK d7_erase_78 (fun v4 hv4 => ?_)
      refine g_istore_n hK (lv2 := [(0, .ref (Z.2.2.1 + 292)), (1, .int (zi v1)), (2, .int (zi v3)), (3, .int (zi v4))]) [1, 2, 3, 0] rfl rfl (by decide) d7_erase_79 ?_
      refine g_iconst hK d7_erase_80 zki0 ?_
      refine g_istore hK (lv2 := [(0, .ref (Z.2.2.1 + 292)), (1, .int (zi v1)), (2, .int (zi v3)), (3, .int (zi v4)), (4, .int (zi 0))]) [1, 2, 3, 4, 0] rfl (by decide) d7_erase_81 ?_
      exact l7_erase_83 hcx  zFu v1 v3 v4 0 m5 hv1 hv3 hv4 zc0
    · refine g_aload_n hK 0 rfl rfl d7_erase_67 ?_
      refine g_iconst hK d7_erase_68 zki5 ?_
      refine g_callVcl hK (mk := mkI) (rm := rm7_refused) (cb := 0) (sb := 0) (As := [.int (zi 5)]) (b := 292) (n := 1) (c7_refused K.2.1 hK.2.2.2.2.2.2.2.2.1 Z 5 m5 zc5) rfl (ci := 7) rfl (by decide) kc_292 q_1660 q_1662 qs_7_refused q_7 q_1663 rfl (by decide +kernel) (by decide) (Nat.le_of_ble_eq_true rfl) (Nat.le_of_ble_eq_true rfl) (Nat.le_of_ble_eq_true rfl) rfl d7_erase_69 (fun r1 m6 hr1 hpr1 => ?_)
      exact g_iret hK hpr1 rfl rfl d7_erase_72
  · refine g_aload_n hK 0 rfl rfl d7_erase_18 ?_
    refine g_iconst hK d7_erase_19 zki1 ?_
    refine g_callVcl hK (mk := mkI) (rm := rm7_refused) (cb := 0) (sb := 0) (As := [.int (zi 1)]) (b := 292) (n := 1) (c7_refused K.2.1 hK.2.2.2.2.2.2.2.2.1 Z 1 m2 zc1) rfl (ci := 7) rfl (by decide) kc_292 q_1660 q_1662 qs_7_refused q_7 q_1663 rfl (by decide +kernel) (by decide) (Nat.le_of_ble_eq_true rfl) (Nat.le_of_ble_eq_true rfl) (Nat.le_of_ble_eq_true rfl) rfl d7_erase_20 (fun r2 m7 hr2 hpr2 => ?_)
    exact g_iret hK hpr2 rfl rfl d7_erase_23
set_option maxRecDepth 20000 in
theorem p7_reset_111 {K : zK} {Z : zZ} (hcx : zOk K Z b7_reset RX7 4 (some .int) 45 1157 0 0 ∧ ∀ x ∈ K.2.2.2.2.2.2.2.2.2.exceptionTable.toList, False) (x2 : Int) (s0 : Int) (μ : zM) (hx2 : zr x2) (hs0 : zr s0) : zG K Z (zΩ Z) (zF K Z (zΩ Z) (ze2 mkI)) 0 0 111 [(0, .ref (Z.2.2.1 + 292)), (2, .int (zi x2))] [.int (zi s0)] μ (f7_reset_111 x2 s0 μ) := by
  obtain ⟨hK, hex⟩ := id hcx
  unfold f7_reset_111
  refine g_istore_n hK (lv2 := [(0, .ref (Z.2.2.1 + 292)), (2, .int (zi x2)), (3, .int (zi s0))]) [1, 2, 0] rfl rfl (by decide) d7_reset_111 ?_
  refine g_aload_n hK 0 rfl rfl d7_reset_112 ?_
  refine g_iload_n hK 2 rfl rfl d7_reset_113 ?_
  refine g_aload_n hK 0 rfl rfl d7_reset_114 ?_
  refine g_iload_n hK 1 rfl rfl d7_reset_115 ?_
  refine g_callVcl hK (mk := mkI) (rm := (rmGA 40)) (cb := 0) (sb := 0) (As := [.int (zi x2)]) (b := 292) (n := 1) (c7_valueLength 40 K.2.1 hK.2.2.2.2.2.2.2.2.1 Z x2 μ hx2) rfl (ci := 7) rfl (by decide) kc_292 q_1499 q_1501 qs_7_valueLength q_7 q_1502 rfl (by decide +kernel) (by decide) (Nat.le_of_ble_eq_true rfl) (Nat.le_of_ble_eq_true rfl) (Nat.le_of_ble_eq_true rfl) rfl d7_reset_116 (fun r5 m9 hr5 hpr5 => ?_)
  refine g_callVcl hK (mk := mkI) (rm := rm7_tells) (cb := 0) (sb := 0) (As := [.int (zi s0), .int (zi r5)]) (b := 292) (n := 2) (c7_tells K.2.1 hK.2.2.2.2.2.2.2.2.1 Z s0 r5 m9 hs0 hpr5) rfl (ci := 7) rfl (by decide) kc_292 q_1676 q_1678 qs_7_tells q_7 q_1679 rfl (by decide +kernel) (by decide) (Nat.le_of_ble_eq_true rfl) (Nat.le_of_ble_eq_true rfl) (Nat.le_of_ble_eq_true rfl) rfl d7_reset_119 (fun r6 m10 hr6 hpr6 => ?_)
  exact g_iret hK hpr6 rfl rfl d7_reset_122
set_option maxRecDepth 20000 in
theorem c7_reset (l : Launch) (hst : l.stackTraces = false) (Z : zZ) (μ : zM) : ∀ x, f7_reset μ = some x → zCt l Z (zΩ Z) y7_reset (zws (.code y7_reset b7_reset 4 (some .int))) rm7_reset [.ref (Z.2.2.1 + 292)] μ (ze2 mkI x) := by
  intro x h
  refine zCt.of (enc := (ze2 mkI)) h (by decide) hst (Nat.le_of_ble_eq_true rfl) (fun K hK0 hex hl _ => ?_)
  subst hl
  have hcx : zOk K Z b7_reset RX7 4 (some .int) 45 1157 0 0 ∧ ∀ x ∈ K.2.2.2.2.2.2.2.2.2.exceptionTable.toList, False := ⟨hK0, hex⟩
  have hK := hcx.1
  show zG K Z (zΩ Z) (zF K Z (zΩ Z) (ze2 mkI)) 0 0 0 [(0, .ref (Z.2.2.1 + 292))] [] μ (f7_reset μ)
  unfold f7_reset
  refine g_aload_n hK 0 rfl rfl d7_reset_0 ?_
  refine g_iconst hK d7_reset_1 zki0 ?_
  refine g_putI hK zfin_7 (fa_7_0 kc_292) q_1197 zc0 rfl (tyX7_ok 0 (by decide)) tyX7 tyX7_ok nmX7 d7_reset_2 ?_
  refine g_ltM (fun m1 => ?_)
  refine g_aload_n hK 0 rfl rfl d7_reset_5 ?_
  refine g_callVcm hK (rm := rm7_begins) (cb := 0) (sb := 0) (As := []) (b := 292) (n := 0) (c7_begins K.2.1 hK.2.2.2.2.2.2.2.2.1 Z  m1 ) rfl (ci := 7) rfl (by decide) kc_292 q_1656 q_1658 qs_7_begins q_7 q_1659 rfl (by decide +kernel) (by decide) (Nat.le_of_ble_eq_true rfl) (Nat.le_of_ble_eq_true rfl) (Nat.le_of_ble_eq_true rfl) rfl d7_reset_6 (fun m2 hm2 => ?_)
  refine g_aload_n hK 0 rfl rfl d7_reset_9 ?_
  refine g_getR hK zfin_7 (fa_7_1 kc_292) q_1198 (r := 293) (by decide +kernel) d7_reset_10 ?_
  refine g_iconst hK d7_reset_13 zki0 ?_
  refine g_iald hK kc_293 d7_reset_14 (fun _ hl1 => ?_)
  refine g_if_ne hK hl1 (tgt := 24) (by decide) d7_reset_15 (fun _ => ?_) (fun _ => ?_)
  · refine g_aload_n hK 0 rfl rfl d7_reset_24 ?_
    refine g_getR hK zfin_7 (fa_7_1 kc_292) q_1198 (r := 293) (by decide +kernel) d7_reset_25 ?_
    refine g_iconst hK d7_reset_28 zki0 ?_
    refine g_iald hK kc_293 d7_reset_29 (fun _ hl2 => ?_)
    refine g_iconst hK d7_reset_30 zki1 ?_
    refine g_isub hK d7_reset_31 (fun v1 hv1 => ?_)
    refine g_istore_n hK (lv2 := [(0, .ref (Z.2.2.1 + 292)), (1, .int (zi v1))]) [1, 0] rfl rfl (by decide) d7_reset_32 ?_
    refine g_aload_n hK 0 rfl rfl d7_reset_33 ?_
    refine g_iload_n hK 1 rfl rfl d7_reset_34 ?_
    refine g_callVcm hK (rm := rm7_lays) (cb := 0) (sb := 0) (As := [.int (zi v1)]) (b := 292) (n := 1) (c7_lays K.2.1 hK.2.2.2.2.2.2.2.2.1 Z v1 m2 hv1) rfl (ci := 7) rfl (by decide) kc_292 q_1467 q_1469 qs_7_lays q_7 q_1470 rfl (by decide +kernel) (by decide) (Nat.le_of_ble_eq_true rfl) (Nat.le_of_ble_eq_true rfl) (Nat.le_of_ble_eq_true rfl) rfl d7_reset_35 (fun m3 hm3 => ?_)
    refine g_aload_n hK 0 rfl rfl d7_reset_38 ?_
    refine g_getR hK zfin_7 (fa_7_1 kc_292) q_1198 (r := 293) (by decide +kernel) d7_reset_39 ?_
    refine g_aload_n hK 0 rfl rfl d7_reset_42 ?_
    refine g_getI hK zfin_7 (fa_7_22 kc_292) q_1219 d7_reset_43 (fun hf1 => ?_)
    refine g_iconst hK d7_reset_46 zki1 ?_
    refine g_iadd hK d7_reset_47 (fun v2 hv2 => ?_)
    refine g_iald hK kc_293 d7_reset_48 (fun _ hl3 => ?_)
    refine g_ltI hl3 (fun v3 hv3 => ?_)
    refine g_istore_n hK (lv2 := [(0, .ref (Z.2.2.1 + 292)), (1, .int (zi v1)), (2, .int (zi v3))]) [1, 2, 0] rfl rfl (by decide) d7_reset_49 ?_
    refine g_aload_n hK 0 rfl rfl d7_reset_50 ?_
    refine g_iload_n hK 2 rfl rfl d7_reset_51 ?_
    refine g_callVco hK (mk := mkZ) (rm := rm7_isTyped) (cb := 0) (sb := 0) (As := [.int (zi v3)]) (b := 292) (n := 1) (c7_isTyped K.2.1 hK.2.2.2.2.2.2.2.2.1 Z v3 m3 hv3) rfl (ci := 7) rfl (by decide) kc_292 q_1483 q_1485 qs_7_isTyped q_7 q_1486 rfl (by decide +kernel) (by decide) (Nat.le_of_ble_eq_true rfl) (Nat.le_of_ble_eq_true rfl) (Nat.le_of_ble_eq_true rfl) rfl d7_reset_52 (fun r1 hr1 hpr1 => ?_)
    refine g_if_ne hK (zb_r r1) (tgt := 65) (by decide) d7_reset_55 (fun _ => ?_) (fun _ => ?_)
    · refine g_aload_n hK 0 rfl rfl d7_reset_65 ?_
      refine g_getR hK zfin_7 (fa_7_1 kc_292) q_1198 (r := 293) (by decide +kernel) d7_reset_66 ?_
      refine g_aload_n hK 0 rfl rfl d7_reset_69 ?_
      refine g_getI hK zfin_7 (fa_7_22 kc_292) q_1219 d7_reset_70 (fun hf2 => ?_)
      refine g_iconst hK d7_reset_73 zki2 ?_
      refine g_iadd hK d7_reset_74 (fun v4 hv4 => ?_)
      refine g_dup2 hK d7_reset_75 rfl rfl ?_
      refine g_iald hK kc_293 d7_reset_76 (fun _ hl4 => ?_)
      refine g_iconst hK d7_reset_77 zki1 ?_
      refine g_iload_n hK 2 rfl rfl d7_reset_78 ?_
      refine g_ishl hK d7_reset_79 (fun v5 hv5 => ?_)
      refine g_iconst hK d7_reset_80 zkim1 ?_
      refine g_ixor hK d7_reset_81 (fun v6 hv6 => ?_)
      refine g_iand hK d7_reset_82 (fun v7 hv7 => ?_)
      refine g_iast hK hv7 kc_293 d7_reset_83 (fun _ => ?_)
      refine g_ltM (fun m4 => ?_)
      refine g_aload_n hK 0 rfl rfl d7_reset_84 ?_
      refine g_getR hK zfin_7 (fa_7_1 kc_292) q_1198 (r := 293) (by decide +kernel) d7_reset_85 ?_
      refine g_aload_n hK 0 rfl rfl d7_reset_88 ?_
      refine g_getI hK zfin_7 (fa_7_22 kc_292) q_1219 d7_reset_89 (fun hf3 => ?_)
      refine g_iconst hK d7_reset_92 zki3 ?_
      refine g_iadd hK d7_reset_93 (fun v8 hv8 => ?_)
      refine g_iload_n hK 2 rfl rfl d7_reset_94 ?_
      refine g_iadd hK d7_reset_95 (fun v9 hv9 => ?_)
      refine g_iconst hK d7_reset_96 zki0 ?_
      refine g_iast hK zc0 kc_293 d7_reset_97 (fun _ => ?_)
      refine g_ltM (fun m5 => ?_)
      refine g_aload_n hK 0 rfl rfl d7_reset_98 ?_
      refine g_iload_n hK 1 rfl rfl d7_reset_99 ?_
      refine g_callVcl hK (mk := mkZ) (rm := rm7_isTooLong) (cb := 0) (sb := 0) (As := [.int (zi v1)]) (b := 292) (n := 1) (c7_isTooLong K.2.1 hK.2.2.2.2.2.2.2.2.1 Z v1 m5 hv1) rfl (ci := 7) rfl (by decide) kc_292 q_1664 q_1666 qs_7_isTooLong q_7 q_1667 rfl (by decide +kernel) (by decide) (Nat.le_of_ble_eq_true rfl) (Nat.le_of_ble_eq_true rfl) (Nat.le_of_ble_eq_true rfl) rfl d7_reset_100 (fun r2 m6 hr2 hpr2 => ?_)
      refine g_if_eq hK (zb_r r2) (tgt := 110) (by decide) d7_reset_103 (fun _ => ?_) (fun _ => ?_)
      · refine g_iconst hK d7_reset_110 zki0 ?_
        refine g_lv (lv2 := [(0, .ref (Z.2.2.1 + 292)), (2, .int (zi v3))]) [0, 2] rfl ?_
        exact p7_reset_111 hcx  v3 0 m6 hv3 zc0
      · refine g_iconst hK d7_reset_106 zki3 ?_
        refine g_goto hK (tgt := 111) (by decide) d7_reset_107 ?_
        refine g_lv (lv2 := [(0, .ref (Z.2.2.1 + 292)), (2, .int (zi v3))]) [0, 2] rfl ?_
        exact p7_reset_111 hcx  v3 3 m6 hv3 zc3
    · refine g_aload_n hK 0 rfl rfl d7_reset_58 ?_
      refine g_bipush hK d7_reset_59 zkb6 ?_
      refine g_callVcl hK (mk := mkI) (rm := rm7_refused) (cb := 0) (sb := 0) (As := [.int (zi 6)]) (b := 292) (n := 1) (c7_refused K.2.1 hK.2.2.2.2.2.2.2.2.1 Z 6 m3 zc6) rfl (ci := 7) rfl (by decide) kc_292 q_1660 q_1662 qs_7_refused q_7 q_1663 rfl (by decide +kernel) (by decide) (Nat.le_of_ble_eq_true rfl) (Nat.le_of_ble_eq_true rfl) (Nat.le_of_ble_eq_true rfl) rfl d7_reset_61 (fun r3 m7 hr3 hpr3 => ?_)
      exact g_iret hK hpr3 rfl rfl d7_reset_64
  · refine g_aload_n hK 0 rfl rfl d7_reset_18 ?_
    refine g_iconst hK d7_reset_19 zki1 ?_
    refine g_callVcl hK (mk := mkI) (rm := rm7_refused) (cb := 0) (sb := 0) (As := [.int (zi 1)]) (b := 292) (n := 1) (c7_refused K.2.1 hK.2.2.2.2.2.2.2.2.1 Z 1 m2 zc1) rfl (ci := 7) rfl (by decide) kc_292 q_1660 q_1662 qs_7_refused q_7 q_1663 rfl (by decide +kernel) (by decide) (Nat.le_of_ble_eq_true rfl) (Nat.le_of_ble_eq_true rfl) (Nat.le_of_ble_eq_true rfl) rfl d7_reset_20 (fun r4 m8 hr4 hpr4 => ?_)
    exact g_iret hK hpr4 rfl rfl d7_reset_23
set_option maxRecDepth 20000 in
theorem c7_currentNow (l : Launch) (hst : l.stackTraces = false) (Z : zZ) (μ : zM) : ∀ x, f7_currentNow μ = some x → zCt l Z (zΩ Z) y7_currentNow (zws (.code y7_currentNow b7_currentNow 1 (some .int))) rm7_currentNow [.ref (Z.2.2.1 + 292)] μ (zeP mkI μ x) := by
  intro x h
  refine zCt.of (enc := (zeP mkI μ)) h (by decide) hst (Nat.le_of_ble_eq_true rfl) (fun K hK0 hex hl _ => ?_)
  subst hl
  have hcx : zOk K Z b7_currentNow RX7 1 (some .int) 0 8 0 0 ∧ ∀ x ∈ K.2.2.2.2.2.2.2.2.2.exceptionTable.toList, False := ⟨hK0, hex⟩
  have hK := hcx.1
  show zG K Z (zΩ Z) (zF K Z (zΩ Z) (zeP mkI μ)) 0 0 0 [(0, .ref (Z.2.2.1 + 292))] [] μ (f7_currentNow μ)
  unfold f7_currentNow
  refine g_aload_n hK 0 rfl rfl d7_currentNow_0 ?_
  refine g_getR hK zfin_7 (fa_7_1 kc_292) q_1198 (r := 293) (by decide +kernel) d7_currentNow_1 ?_
  refine g_iconst hK d7_currentNow_4 zki0 ?_
  refine g_iald hK kc_293 d7_currentNow_5 (fun _ hl1 => ?_)
  refine g_if_ne hK hl1 (tgt := 14) (by decide) d7_currentNow_6 (fun _ => ?_) (fun _ => ?_)
  · refine g_aload_n hK 0 rfl rfl d7_currentNow_14 ?_
    refine g_getR hK zfin_7 (fa_7_1 kc_292) q_1198 (r := 293) (by decide +kernel) d7_currentNow_15 ?_
    refine g_sipush hK d7_currentNow_18 zks604 ?_
    refine g_sipush hK d7_currentNow_21 zks413 ?_
    refine g_aload_n hK 0 rfl rfl d7_currentNow_24 ?_
    refine g_getR hK zfin_7 (fa_7_1 kc_292) q_1198 (r := 293) (by decide +kernel) d7_currentNow_25 ?_
    refine g_iconst hK d7_currentNow_28 zki0 ?_
    refine g_iald hK kc_293 d7_currentNow_29 (fun _ hl2 => ?_)
    refine g_iconst hK d7_currentNow_30 zki1 ?_
    refine g_isub hK d7_currentNow_31 (fun v1 hv1 => ?_)
    refine g_imul hK d7_currentNow_32 (fun v2 hv2 => ?_)
    refine g_iadd hK d7_currentNow_33 (fun v3 hv3 => ?_)
    refine g_iconst hK d7_currentNow_34 zki1 ?_
    refine g_iadd hK d7_currentNow_35 (fun v4 hv4 => ?_)
    refine g_iald hK kc_293 d7_currentNow_36 (fun _ hl3 => ?_)
    exact g_iret hK hl3 rfl rfl d7_currentNow_37
  · refine g_bipush hK d7_currentNow_9 zkb10 ?_
    refine g_goto hK (tgt := 37) (by decide) d7_currentNow_11 ?_
    exact g_iret hK zc10 rfl rfl d7_currentNow_37
set_option maxRecDepth 20000 in
theorem p7_next_93 {K : zK} {Z : zZ} (hcx : zOk K Z b7_next RX7 3 (some .int) 86 2220 0 0 ∧ ∀ x ∈ K.2.2.2.2.2.2.2.2.2.exceptionTable.toList, False) (x2 : Int) (μ : zM) (hx2 : zr x2) : zG K Z (zΩ Z) (zF K Z (zΩ Z) (ze2 mkI)) 0 0 93 [(0, .ref (Z.2.2.1 + 292)), (2, .int (zi x2))] [] μ (f7_next_93 x2 μ) := by
  obtain ⟨hK, hex⟩ := id hcx
  unfold f7_next_93
  refine g_aload_n hK 0 rfl rfl d7_next_93 ?_
  refine g_iload_n hK 1 rfl rfl d7_next_94 ?_
  refine g_aload_n hK 0 rfl rfl d7_next_95 ?_
  refine g_callVco hK (mk := mkI) (rm := rm7_currentNow) (cb := 0) (sb := 0) (As := []) (b := 292) (n := 0) (c7_currentNow K.2.1 hK.2.2.2.2.2.2.2.2.1 Z  μ ) rfl (ci := 7) rfl (by decide) kc_292 q_1700 q_1702 qs_7_currentNow q_7 q_1703 rfl (by decide +kernel) (by decide) (Nat.le_of_ble_eq_true rfl) (Nat.le_of_ble_eq_true rfl) (Nat.le_of_ble_eq_true rfl) rfl d7_next_96 (fun r4 hr4 hpr4 => ?_)
  refine g_callVcl hK (mk := mkI) (rm := rm7_tells) (cb := 0) (sb := 0) (As := [.int (zi x2), .int (zi r4)]) (b := 292) (n := 2) (c7_tells K.2.1 hK.2.2.2.2.2.2.2.2.1 Z x2 r4 μ hx2 hpr4) rfl (ci := 7) rfl (by decide) kc_292 q_1676 q_1678 qs_7_tells q_7 q_1679 rfl (by decide +kernel) (by decide) (Nat.le_of_ble_eq_true rfl) (Nat.le_of_ble_eq_true rfl) (Nat.le_of_ble_eq_true rfl) rfl d7_next_99 (fun r5 m8 hr5 hpr5 => ?_)
  exact g_iret hK hpr5 rfl rfl d7_next_102
set_option maxRecDepth 20000 in
theorem c7_next (l : Launch) (hst : l.stackTraces = false) (Z : zZ) (μ : zM) : ∀ x, f7_next μ = some x → zCt l Z (zΩ Z) y7_next (zws (.code y7_next b7_next 3 (some .int))) rm7_next [.ref (Z.2.2.1 + 292)] μ (ze2 mkI x) := by
  intro x h
  refine zCt.of (enc := (ze2 mkI)) h (by decide) hst (Nat.le_of_ble_eq_true rfl) (fun K hK0 hex hl _ => ?_)
  subst hl
  have hcx : zOk K Z b7_next RX7 3 (some .int) 86 2220 0 0 ∧ ∀ x ∈ K.2.2.2.2.2.2.2.2.2.exceptionTable.toList, False := ⟨hK0, hex⟩
  have hK := hcx.1
  show zG K Z (zΩ Z) (zF K Z (zΩ Z) (ze2 mkI)) 0 0 0 [(0, .ref (Z.2.2.1 + 292))] [] μ (f7_next μ)
  unfold f7_next
  refine g_aload_n hK 0 rfl rfl d7_next_0 ?_
  refine g_iconst hK d7_next_1 zki0 ?_
  refine g_putI hK zfin_7 (fa_7_0 kc_292) q_1197 zc0 rfl (tyX7_ok 0 (by decide)) tyX7 tyX7_ok nmX7 d7_next_2 ?_
  refine g_ltM (fun m1 => ?_)
  refine g_aload_n hK 0 rfl rfl d7_next_5 ?_
  refine g_callVcm hK (rm := rm7_begins) (cb := 0) (sb := 0) (As := []) (b := 292) (n := 0) (c7_begins K.2.1 hK.2.2.2.2.2.2.2.2.1 Z  m1 ) rfl (ci := 7) rfl (by decide) kc_292 q_1656 q_1658 qs_7_begins q_7 q_1659 rfl (by decide +kernel) (by decide) (Nat.le_of_ble_eq_true rfl) (Nat.le_of_ble_eq_true rfl) (Nat.le_of_ble_eq_true rfl) rfl d7_next_6 (fun m2 hm2 => ?_)
  refine g_aload_n hK 0 rfl rfl d7_next_9 ?_
  refine g_getR hK zfin_7 (fa_7_1 kc_292) q_1198 (r := 293) (by decide +kernel) d7_next_10 ?_
  refine g_iconst hK d7_next_13 zki0 ?_
  refine g_iald hK kc_293 d7_next_14 (fun _ hl1 => ?_)
  refine g_if_ne hK hl1 (tgt := 24) (by decide) d7_next_15 (fun _ => ?_) (fun _ => ?_)
  · refine g_aload_n hK 0 rfl rfl d7_next_24 ?_
    refine g_aload_n hK 0 rfl rfl d7_next_25 ?_
    refine g_getR hK zfin_7 (fa_7_1 kc_292) q_1198 (r := 293) (by decide +kernel) d7_next_26 ?_
    refine g_iconst hK d7_next_29 zki0 ?_
    refine g_iald hK kc_293 d7_next_30 (fun _ hl2 => ?_)
    refine g_iconst hK d7_next_31 zki1 ?_
    refine g_isub hK d7_next_32 (fun v1 hv1 => ?_)
    refine g_callVcm hK (rm := rm7_lays) (cb := 0) (sb := 0) (As := [.int (zi v1)]) (b := 292) (n := 1) (c7_lays K.2.1 hK.2.2.2.2.2.2.2.2.1 Z v1 m2 hv1) rfl (ci := 7) rfl (by decide) kc_292 q_1467 q_1469 qs_7_lays q_7 q_1470 rfl (by decide +kernel) (by decide) (Nat.le_of_ble_eq_true rfl) (Nat.le_of_ble_eq_true rfl) (Nat.le_of_ble_eq_true rfl) rfl d7_next_33 (fun m3 hm3 => ?_)
    refine g_aload_n hK 0 rfl rfl d7_next_36 ?_
    refine g_callVcm hK (rm := rm7_laysLeaving) (cb := 0) (sb := 0) (As := []) (b := 292) (n := 0) (c7_laysLeaving K.2.1 hK.2.2.2.2.2.2.2.2.1 Z  m3 ) rfl (ci := 7) rfl (by decide) kc_292 q_1522 q_1524 qs_7_laysLeaving q_7 q_1525 rfl (by decide +kernel) (by decide) (Nat.le_of_ble_eq_true rfl) (Nat.le_of_ble_eq_true rfl) (Nat.le_of_ble_eq_true rfl) rfl d7_next_37 (fun m4 hm4 => ?_)
    refine g_aload_n hK 0 rfl rfl d7_next_40 ?_
    refine g_aload_n hK 0 rfl rfl d7_next_41 ?_
    refine g_getR hK zfin_7 (fa_7_1 kc_292) q_1198 (r := 293) (by decide +kernel) d7_next_42 ?_
    refine g_aload_n hK 0 rfl rfl d7_next_45 ?_
    refine g_getI hK zfin_7 (fa_7_22 kc_292) q_1219 d7_next_46 (fun hf1 => ?_)
    refine g_iconst hK d7_next_49 zki1 ?_
    refine g_iadd hK d7_next_50 (fun v2 hv2 => ?_)
    refine g_iald hK kc_293 d7_next_51 (fun _ hl3 => ?_)
    refine g_callVco hK (mk := mkI) (rm := rm7_placeOf) (cb := 0) (sb := 0) (As := [.int (zi (zI m4 293 (zx v2)))]) (b := 292) (n := 1) (c7_placeOf K.2.1 hK.2.2.2.2.2.2.2.2.1 Z (zI m4 293 (zx v2)) m4 hl3) rfl (ci := 7) rfl (by decide) kc_292 q_1538 q_1540 qs_7_placeOf q_7 q_1541 rfl (by decide +kernel) (by decide) (Nat.le_of_ble_eq_true rfl) (Nat.le_of_ble_eq_true rfl) (Nat.le_of_ble_eq_true rfl) rfl d7_next_52 (fun r1 hr1 hpr1 => ?_)
    refine g_iconst hK d7_next_55 zki1 ?_
    refine g_iadd hK d7_next_56 (fun v3 hv3 => ?_)
    refine g_istore_n hK (lv2 := [(0, .ref (Z.2.2.1 + 292)), (1, .int (zi v3))]) [1, 0] rfl rfl (by decide) d7_next_57 ?_
    refine g_iconst hK d7_next_58 zki0 ?_
    refine g_istore_n hK (lv2 := [(0, .ref (Z.2.2.1 + 292)), (1, .int (zi v3)), (2, .int (zi 0))]) [1, 2, 0] rfl rfl (by decide) d7_next_59 ?_
    refine g_iload_n hK 1 rfl rfl d7_next_60 ?_
    refine g_aload_n hK 0 rfl rfl d7_next_61 ?_
    refine g_getI hK zfin_7 (fa_7_33 kc_292) q_1230 d7_next_62 (fun hf2 => ?_)
    refine g_icmp_ge hK hv3 hf2 (tgt := 88) (by decide) d7_next_65 (fun _ => ?_) (fun _ => ?_)
    · refine g_aload_n hK 0 rfl rfl d7_next_88 ?_
      refine g_callVcl hK (mk := mkI) (rm := rm7_ends) (cb := 0) (sb := 0) (As := []) (b := 292) (n := 0) (c7_ends K.2.1 hK.2.2.2.2.2.2.2.2.1 Z  m4 ) rfl (ci := 7) rfl (by decide) kc_292 q_1668 q_1670 qs_7_ends q_7 q_1671 rfl (by decide +kernel) (by decide) (Nat.le_of_ble_eq_true rfl) (Nat.le_of_ble_eq_true rfl) (Nat.le_of_ble_eq_true rfl) rfl d7_next_89 (fun r2 m5 hr2 hpr2 => ?_)
      refine g_istore_n hK (lv2 := [(0, .ref (Z.2.2.1 + 292)), (1, .int (zi v3)), (2, .int (zi r2))]) [1, 2, 0] rfl rfl (by decide) d7_next_92 ?_
      refine g_lv (lv2 := [(0, .ref (Z.2.2.1 + 292)), (2, .int (zi r2))]) [0, 2] rfl ?_
      exact p7_next_93 hcx  r2 m5 hpr2
    · refine g_aload_n hK 0 rfl rfl d7_next_68 ?_
      refine g_getR hK zfin_7 (fa_7_1 kc_292) q_1198 (r := 293) (by decide +kernel) d7_next_69 ?_
      refine g_aload_n hK 0 rfl rfl d7_next_72 ?_
      refine g_getI hK zfin_7 (fa_7_22 kc_292) q_1219 d7_next_73 (fun hf3 => ?_)
      refine g_iconst hK d7_next_76 zki1 ?_
      refine g_iadd hK d7_next_77 (fun v4 hv4 => ?_)
      refine g_aload_n hK 0 rfl rfl d7_next_78 ?_
      refine g_getR hK zfin_7 (fa_7_32 kc_292) q_1229 (r := 336) (by decide +kernel) d7_next_79 ?_
      refine g_iload_n hK 1 rfl rfl d7_next_82 ?_
      refine g_iald hK kc_336 d7_next_83 (fun _ hl4 => ?_)
      refine g_iast hK hl4 kc_293 d7_next_84 (fun _ => ?_)
      refine g_ltM (fun m6 => ?_)
      refine g_goto hK (tgt := 93) (by decide) d7_next_85 ?_
      refine g_lv (lv2 := [(0, .ref (Z.2.2.1 + 292)), (2, .int (zi 0))]) [0, 2] rfl ?_
      exact p7_next_93 hcx  0 m6 zc0
  · refine g_aload_n hK 0 rfl rfl d7_next_18 ?_
    refine g_iconst hK d7_next_19 zki1 ?_
    refine g_callVcl hK (mk := mkI) (rm := rm7_refused) (cb := 0) (sb := 0) (As := [.int (zi 1)]) (b := 292) (n := 1) (c7_refused K.2.1 hK.2.2.2.2.2.2.2.2.1 Z 1 m2 zc1) rfl (ci := 7) rfl (by decide) kc_292 q_1660 q_1662 qs_7_refused q_7 q_1663 rfl (by decide +kernel) (by decide) (Nat.le_of_ble_eq_true rfl) (Nat.le_of_ble_eq_true rfl) (Nat.le_of_ble_eq_true rfl) rfl d7_next_20 (fun r3 m7 hr3 hpr3 => ?_)
    exact g_iret hK hpr3 rfl rfl d7_next_23
set_option maxRecDepth 20000 in
theorem c7_previous (l : Launch) (hst : l.stackTraces = false) (Z : zZ) (μ : zM) : ∀ x, f7_previous μ = some x → zCt l Z (zΩ Z) y7_previous (zws (.code y7_previous b7_previous 2 (some .int))) rm7_previous [.ref (Z.2.2.1 + 292)] μ (ze2 mkI x) := by
  intro x h
  refine zCt.of (enc := (ze2 mkI)) h (by decide) hst (Nat.le_of_ble_eq_true rfl) (fun K hK0 hex hl _ => ?_)
  subst hl
  have hcx : zOk K Z b7_previous RX7 2 (some .int) 4 94 0 0 ∧ ∀ x ∈ K.2.2.2.2.2.2.2.2.2.exceptionTable.toList, False := ⟨hK0, hex⟩
  have hK := hcx.1
  show zG K Z (zΩ Z) (zF K Z (zΩ Z) (ze2 mkI)) 0 0 0 [(0, .ref (Z.2.2.1 + 292))] [] μ (f7_previous μ)
  unfold f7_previous
  refine g_aload_n hK 0 rfl rfl d7_previous_0 ?_
  refine g_iconst hK d7_previous_1 zki0 ?_
  refine g_putI hK zfin_7 (fa_7_0 kc_292) q_1197 zc0 rfl (tyX7_ok 0 (by decide)) tyX7 tyX7_ok nmX7 d7_previous_2 ?_
  refine g_ltM (fun m1 => ?_)
  refine g_aload_n hK 0 rfl rfl d7_previous_5 ?_
  refine g_callVcm hK (rm := rm7_begins) (cb := 0) (sb := 0) (As := []) (b := 292) (n := 0) (c7_begins K.2.1 hK.2.2.2.2.2.2.2.2.1 Z  m1 ) rfl (ci := 7) rfl (by decide) kc_292 q_1656 q_1658 qs_7_begins q_7 q_1659 rfl (by decide +kernel) (by decide) (Nat.le_of_ble_eq_true rfl) (Nat.le_of_ble_eq_true rfl) (Nat.le_of_ble_eq_true rfl) rfl d7_previous_6 (fun m2 hm2 => ?_)
  refine g_aload_n hK 0 rfl rfl d7_previous_9 ?_
  refine g_getR hK zfin_7 (fa_7_1 kc_292) q_1198 (r := 293) (by decide +kernel) d7_previous_10 ?_
  refine g_iconst hK d7_previous_13 zki0 ?_
  refine g_iald hK kc_293 d7_previous_14 (fun _ hl1 => ?_)
  refine g_if_ne hK hl1 (tgt := 24) (by decide) d7_previous_15 (fun _ => ?_) (fun _ => ?_)
  · refine g_aload_n hK 0 rfl rfl d7_previous_24 ?_
    refine g_aload_n hK 0 rfl rfl d7_previous_25 ?_
    refine g_getR hK zfin_7 (fa_7_1 kc_292) q_1198 (r := 293) (by decide +kernel) d7_previous_26 ?_
    refine g_iconst hK d7_previous_29 zki0 ?_
    refine g_iald hK kc_293 d7_previous_30 (fun _ hl2 => ?_)
    refine g_iconst hK d7_previous_31 zki1 ?_
    refine g_isub hK d7_previous_32 (fun v1 hv1 => ?_)
    refine g_callVcm hK (rm := rm7_lays) (cb := 0) (sb := 0) (As := [.int (zi v1)]) (b := 292) (n := 1) (c7_lays K.2.1 hK.2.2.2.2.2.2.2.2.1 Z v1 m2 hv1) rfl (ci := 7) rfl (by decide) kc_292 q_1467 q_1469 qs_7_lays q_7 q_1470 rfl (by decide +kernel) (by decide) (Nat.le_of_ble_eq_true rfl) (Nat.le_of_ble_eq_true rfl) (Nat.le_of_ble_eq_true rfl) rfl d7_previous_33 (fun m3 hm3 => ?_)
    refine g_aload_n hK 0 rfl rfl d7_previous_36 ?_
    refine g_callVcm hK (rm := rm7_laysLeaving) (cb := 0) (sb := 0) (As := []) (b := 292) (n := 0) (c7_laysLeaving K.2.1 hK.2.2.2.2.2.2.2.2.1 Z  m3 ) rfl (ci := 7) rfl (by decide) kc_292 q_1522 q_1524 qs_7_laysLeaving q_7 q_1525 rfl (by decide +kernel) (by decide) (Nat.le_of_ble_eq_true rfl) (Nat.le_of_ble_eq_true rfl) (Nat.le_of_ble_eq_true rfl) rfl d7_previous_37 (fun m4 hm4 => ?_)
    refine g_aload_n hK 0 rfl rfl d7_previous_40 ?_
    refine g_aload_n hK 0 rfl rfl d7_previous_41 ?_
    refine g_getR hK zfin_7 (fa_7_1 kc_292) q_1198 (r := 293) (by decide +kernel) d7_previous_42 ?_
    refine g_aload_n hK 0 rfl rfl d7_previous_45 ?_
    refine g_getI hK zfin_7 (fa_7_22 kc_292) q_1219 d7_previous_46 (fun hf1 => ?_)
    refine g_iconst hK d7_previous_49 zki1 ?_
    refine g_iadd hK d7_previous_50 (fun v2 hv2 => ?_)
    refine g_iald hK kc_293 d7_previous_51 (fun _ hl3 => ?_)
    refine g_callVco hK (mk := mkI) (rm := rm7_placeOf) (cb := 0) (sb := 0) (As := [.int (zi (zI m4 293 (zx v2)))]) (b := 292) (n := 1) (c7_placeOf K.2.1 hK.2.2.2.2.2.2.2.2.1 Z (zI m4 293 (zx v2)) m4 hl3) rfl (ci := 7) rfl (by decide) kc_292 q_1538 q_1540 qs_7_placeOf q_7 q_1541 rfl (by decide +kernel) (by decide) (Nat.le_of_ble_eq_true rfl) (Nat.le_of_ble_eq_true rfl) (Nat.le_of_ble_eq_true rfl) rfl d7_previous_52 (fun r1 hr1 hpr1 => ?_)
    refine g_istore_n hK (lv2 := [(0, .ref (Z.2.2.1 + 292)), (1, .int (zi r1))]) [1, 0] rfl rfl (by decide) d7_previous_55 ?_
    refine g_iload_n hK 1 rfl rfl d7_previous_56 ?_
    refine g_if_ne hK hpr1 (tgt := 67) (by decide) d7_previous_57 (fun _ => ?_) (fun _ => ?_)
    · refine g_aload_n hK 0 rfl rfl d7_previous_67 ?_
      refine g_getR hK zfin_7 (fa_7_1 kc_292) q_1198 (r := 293) (by decide +kernel) d7_previous_68 ?_
      refine g_aload_n hK 0 rfl rfl d7_previous_71 ?_
      refine g_getI hK zfin_7 (fa_7_22 kc_292) q_1219 d7_previous_72 (fun hf2 => ?_)
      refine g_iconst hK d7_previous_75 zki1 ?_
      refine g_iadd hK d7_previous_76 (fun v3 hv3 => ?_)
      refine g_aload_n hK 0 rfl rfl d7_previous_77 ?_
      refine g_getR hK zfin_7 (fa_7_32 kc_292) q_1229 (r := 336) (by decide +kernel) d7_previous_78 ?_
      refine g_iload_n hK 1 rfl rfl d7_previous_81 ?_
      refine g_iconst hK d7_previous_82 zki1 ?_
      refine g_isub hK d7_previous_83 (fun v4 hv4 => ?_)
      refine g_iald hK kc_336 d7_previous_84 (fun _ hl4 => ?_)
      refine g_iast hK hl4 kc_293 d7_previous_85 (fun _ => ?_)
      refine g_ltM (fun m5 => ?_)
      refine g_aload_n hK 0 rfl rfl d7_previous_86 ?_
      refine g_aload_n hK 0 rfl rfl d7_previous_87 ?_
      refine g_getR hK zfin_7 (fa_7_32 kc_292) q_1229 (r := 336) (by decide +kernel) d7_previous_88 ?_
      refine g_iload_n hK 1 rfl rfl d7_previous_91 ?_
      refine g_iconst hK d7_previous_92 zki1 ?_
      refine g_isub hK d7_previous_93 (fun v5 hv5 => ?_)
      refine g_iald hK kc_336 d7_previous_94 (fun _ hl5 => ?_)
      refine g_callVcl hK (mk := mkI) (rm := rm7_done) (cb := 0) (sb := 0) (As := [.int (zi (zI m5 336 (zx v5)))]) (b := 292) (n := 1) (c7_done K.2.1 hK.2.2.2.2.2.2.2.2.1 Z (zI m5 336 (zx v5)) m5 hl5) rfl (ci := 7) rfl (by decide) kc_292 q_1680 q_1682 qs_7_done q_7 q_1683 rfl (by decide +kernel) (by decide) (Nat.le_of_ble_eq_true rfl) (Nat.le_of_ble_eq_true rfl) (Nat.le_of_ble_eq_true rfl) rfl d7_previous_95 (fun r2 m6 hr2 hpr2 => ?_)
      exact g_iret hK hpr2 rfl rfl d7_previous_98
    · refine g_aload_n hK 0 rfl rfl d7_previous_60 ?_
      refine g_bipush hK d7_previous_61 zkb7 ?_
      refine g_callVcl hK (mk := mkI) (rm := rm7_refused) (cb := 0) (sb := 0) (As := [.int (zi 7)]) (b := 292) (n := 1) (c7_refused K.2.1 hK.2.2.2.2.2.2.2.2.1 Z 7 m4 zc7) rfl (ci := 7) rfl (by decide) kc_292 q_1660 q_1662 qs_7_refused q_7 q_1663 rfl (by decide +kernel) (by decide) (Nat.le_of_ble_eq_true rfl) (Nat.le_of_ble_eq_true rfl) (Nat.le_of_ble_eq_true rfl) rfl d7_previous_63 (fun r3 m7 hr3 hpr3 => ?_)
      exact g_iret hK hpr3 rfl rfl d7_previous_66
  · refine g_aload_n hK 0 rfl rfl d7_previous_18 ?_
    refine g_iconst hK d7_previous_19 zki1 ?_
    refine g_callVcl hK (mk := mkI) (rm := rm7_refused) (cb := 0) (sb := 0) (As := [.int (zi 1)]) (b := 292) (n := 1) (c7_refused K.2.1 hK.2.2.2.2.2.2.2.2.1 Z 1 m2 zc1) rfl (ci := 7) rfl (by decide) kc_292 q_1660 q_1662 qs_7_refused q_7 q_1663 rfl (by decide +kernel) (by decide) (Nat.le_of_ble_eq_true rfl) (Nat.le_of_ble_eq_true rfl) (Nat.le_of_ble_eq_true rfl) rfl d7_previous_20 (fun r4 m8 hr4 hpr4 => ?_)
    exact g_iret hK hpr4 rfl rfl d7_previous_23
set_option maxRecDepth 20000 in
theorem p7_go_18 {K : zK} {Z : zZ} (hcx : zOk K Z b7_go RX7 3 (some .int) 4 94 0 0 ∧ ∀ x ∈ K.2.2.2.2.2.2.2.2.2.exceptionTable.toList, False) (a1 : Int) (ha1 : zr a1) (s0 : Int) (μ : zM) (hs0 : zr s0) : zG K Z (zΩ Z) (zF K Z (zΩ Z) (ze2 mkI)) 0 0 18 [(0, .ref (Z.2.2.1 + 292)), (1, .int (zi a1))] [.int (zi s0), .ref (Z.2.2.1 + 292)] μ (f7_go_18 a1 s0 μ) := by
  obtain ⟨hK, hex⟩ := id hcx
  unfold f7_go_18
  refine g_iconst hK d7_go_18 zki1 ?_
  refine g_callVcl hK (mk := mkZ) (rm := rm7_throwsIf) (cb := 0) (sb := 0) (As := [.int (zi s0), .int (zi 1)]) (b := 292) (n := 2) (c7_throwsIf K.2.1 hK.2.2.2.2.2.2.2.2.1 Z s0 1 μ hs0 zc1) rfl (ci := 7) rfl (by decide) kc_292 q_1317 q_1319 qs_7_throwsIf q_7 q_1320 rfl (by decide +kernel) (by decide) (Nat.le_of_ble_eq_true rfl) (Nat.le_of_ble_eq_true rfl) (Nat.le_of_ble_eq_true rfl) rfl d7_go_19 (fun r2 m2 hr2 hpr2 => ?_)
  refine g_if_eq hK (zb_r r2) (tgt := 27) (by decide) d7_go_22 (fun _ => ?_) (fun _ => ?_)
  · refine g_aload_n hK 0 rfl rfl d7_go_27 ?_
    refine g_callVcm hK (rm := rm7_begins) (cb := 0) (sb := 0) (As := []) (b := 292) (n := 0) (c7_begins K.2.1 hK.2.2.2.2.2.2.2.2.1 Z  m2 ) rfl (ci := 7) rfl (by decide) kc_292 q_1656 q_1658 qs_7_begins q_7 q_1659 rfl (by decide +kernel) (by decide) (Nat.le_of_ble_eq_true rfl) (Nat.le_of_ble_eq_true rfl) (Nat.le_of_ble_eq_true rfl) rfl d7_go_28 (fun m3 hm3 => ?_)
    refine g_aload_n hK 0 rfl rfl d7_go_31 ?_
    refine g_getR hK zfin_7 (fa_7_1 kc_292) q_1198 (r := 293) (by decide +kernel) d7_go_32 ?_
    refine g_iconst hK d7_go_35 zki0 ?_
    refine g_iald hK kc_293 d7_go_36 (fun _ hl1 => ?_)
    refine g_if_ne hK hl1 (tgt := 46) (by decide) d7_go_37 (fun _ => ?_) (fun _ => ?_)
    · refine g_aload_n hK 0 rfl rfl d7_go_46 ?_
      refine g_aload_n hK 0 rfl rfl d7_go_47 ?_
      refine g_getR hK zfin_7 (fa_7_1 kc_292) q_1198 (r := 293) (by decide +kernel) d7_go_48 ?_
      refine g_iconst hK d7_go_51 zki0 ?_
      refine g_iald hK kc_293 d7_go_52 (fun _ hl2 => ?_)
      refine g_iconst hK d7_go_53 zki1 ?_
      refine g_isub hK d7_go_54 (fun v1 hv1 => ?_)
      refine g_callVcm hK (rm := rm7_lays) (cb := 0) (sb := 0) (As := [.int (zi v1)]) (b := 292) (n := 1) (c7_lays K.2.1 hK.2.2.2.2.2.2.2.2.1 Z v1 m3 hv1) rfl (ci := 7) rfl (by decide) kc_292 q_1467 q_1469 qs_7_lays q_7 q_1470 rfl (by decide +kernel) (by decide) (Nat.le_of_ble_eq_true rfl) (Nat.le_of_ble_eq_true rfl) (Nat.le_of_ble_eq_true rfl) rfl d7_go_55 (fun m4 hm4 => ?_)
      refine g_aload_n hK 0 rfl rfl d7_go_58 ?_
      refine g_getI hK zfin_7 (fa_7_27 kc_292) q_1224 d7_go_59 (fun hf1 => ?_)
      refine g_iload_n hK 1 rfl rfl d7_go_62 ?_
      refine g_callSco hK (mk := mkZ) (rm := rm7_has) (cb := 0) (sb := 0) (As := [.int (zi (zI m4 292 27)), .int (zi a1)]) (n := 2) (c7_has K.2.1 hK.2.2.2.2.2.2.2.2.1 Z (zI m4 292 27) a1 m4 hf1 ha1) q_1390 q_1391 q_7 q_1392 rfl (by decide +kernel) (by decide) (Nat.le_of_ble_eq_true rfl) (Nat.le_of_ble_eq_true rfl) (Nat.le_of_ble_eq_true rfl) rfl d7_go_63 (fun r3 hr3 hpr3 => ?_)
      refine g_if_ne hK (zb_r r3) (tgt := 76) (by decide) d7_go_66 (fun _ => ?_) (fun _ => ?_)
      · refine g_aload_n hK 0 rfl rfl d7_go_76 ?_
        refine g_getR hK zfin_7 (fa_7_1 kc_292) q_1198 (r := 293) (by decide +kernel) d7_go_77 ?_
        refine g_aload_n hK 0 rfl rfl d7_go_80 ?_
        refine g_getI hK zfin_7 (fa_7_22 kc_292) q_1219 d7_go_81 (fun hf2 => ?_)
        refine g_iconst hK d7_go_84 zki1 ?_
        refine g_iadd hK d7_go_85 (fun v2 hv2 => ?_)
        refine g_iald hK kc_293 d7_go_86 (fun _ hl3 => ?_)
        refine g_ltI hl3 (fun v3 hv3 => ?_)
        refine g_istore_n hK (lv2 := [(0, .ref (Z.2.2.1 + 292)), (1, .int (zi a1)), (2, .int (zi v3))]) [1, 2, 0] rfl rfl (by decide) d7_go_87 ?_
        refine g_aload_n hK 0 rfl rfl d7_go_88 ?_
        refine g_getR hK zfin_7 (fa_7_1 kc_292) q_1198 (r := 293) (by decide +kernel) d7_go_89 ?_
        refine g_aload_n hK 0 rfl rfl d7_go_92 ?_
        refine g_getI hK zfin_7 (fa_7_22 kc_292) q_1219 d7_go_93 (fun hf3 => ?_)
        refine g_iconst hK d7_go_96 zki1 ?_
        refine g_iadd hK d7_go_97 (fun v4 hv4 => ?_)
        refine g_iload_n hK 1 rfl rfl d7_go_98 ?_
        refine g_iast hK ha1 kc_293 d7_go_99 (fun _ => ?_)
        refine g_ltM (fun m5 => ?_)
        refine g_aload_n hK 0 rfl rfl d7_go_100 ?_
        refine g_iload_n hK 2 rfl rfl d7_go_101 ?_
        refine g_callVcl hK (mk := mkI) (rm := rm7_done) (cb := 0) (sb := 0) (As := [.int (zi v3)]) (b := 292) (n := 1) (c7_done K.2.1 hK.2.2.2.2.2.2.2.2.1 Z v3 m5 hv3) rfl (ci := 7) rfl (by decide) kc_292 q_1680 q_1682 qs_7_done q_7 q_1683 rfl (by decide +kernel) (by decide) (Nat.le_of_ble_eq_true rfl) (Nat.le_of_ble_eq_true rfl) (Nat.le_of_ble_eq_true rfl) rfl d7_go_102 (fun r4 m6 hr4 hpr4 => ?_)
        exact g_iret hK hpr4 rfl rfl d7_go_105
      · refine g_aload_n hK 0 rfl rfl d7_go_69 ?_
        refine g_bipush hK d7_go_70 zkb8 ?_
        refine g_callVcl hK (mk := mkI) (rm := rm7_refused) (cb := 0) (sb := 0) (As := [.int (zi 8)]) (b := 292) (n := 1) (c7_refused K.2.1 hK.2.2.2.2.2.2.2.2.1 Z 8 m4 zc8) rfl (ci := 7) rfl (by decide) kc_292 q_1660 q_1662 qs_7_refused q_7 q_1663 rfl (by decide +kernel) (by decide) (Nat.le_of_ble_eq_true rfl) (Nat.le_of_ble_eq_true rfl) (Nat.le_of_ble_eq_true rfl) rfl d7_go_72 (fun r5 m7 hr5 hpr5 => ?_)
        exact g_iret hK hpr5 rfl rfl d7_go_75
    · refine g_aload_n hK 0 rfl rfl d7_go_40 ?_
      refine g_iconst hK d7_go_41 zki1 ?_
      refine g_callVcl hK (mk := mkI) (rm := rm7_refused) (cb := 0) (sb := 0) (As := [.int (zi 1)]) (b := 292) (n := 1) (c7_refused K.2.1 hK.2.2.2.2.2.2.2.2.1 Z 1 m3 zc1) rfl (ci := 7) rfl (by decide) kc_292 q_1660 q_1662 qs_7_refused q_7 q_1663 rfl (by decide +kernel) (by decide) (Nat.le_of_ble_eq_true rfl) (Nat.le_of_ble_eq_true rfl) (Nat.le_of_ble_eq_true rfl) rfl d7_go_42 (fun r6 m8 hr6 hpr6 => ?_)
      exact g_iret hK hpr6 rfl rfl d7_go_45
  · refine g_iconst hK d7_go_25 zki0 ?_
    exact g_iret hK zc0 rfl rfl d7_go_26
