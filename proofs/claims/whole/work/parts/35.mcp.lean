set_option maxRecDepth 20000 in
theorem l7_readBody_7 {K : zK} {Z : zZ} (hcx : zOk K Z b7_readBody RX7 4 (some .boolean) 3 81 0 0 ∧ ∀ x ∈ K.2.2.2.2.2.2.2.2.2.exceptionTable.toList, False) : ∀ (i9 : Nat) (x1 : Int) (μ : zM) (hx1 : zr x1), zG K Z (zΩ Z) (zF K Z (zΩ Z) (ze2 mkZ)) 0 0 7 [(0, .ref (Z.2.2.1 + 292)), (1, .int (zi x1))] [] μ (zfx (f7_readBody_7) (fun _ _ => none) i9 x1 μ) := by
  intro i9
  induction i9 with
  | zero => intro x1 μ hx1; exact g_none
  | succ i9 ih => intro x1 μ hx1; exact p7_readBody_7 hcx  (zfx (f7_readBody_7) (fun _ _ => none) i9) ih x1 μ hx1
set_option maxRecDepth 20000 in
theorem c7_readBody (l : Launch) (hst : l.stackTraces = false) (Z : zZ) (μ : zM) : ∀ x, f7_readBody μ = some x → zCt l Z (zΩ Z) y7_readBody (zws (.code y7_readBody b7_readBody 4 (some .boolean))) rm7_readBody [.ref (Z.2.2.1 + 292)] μ (ze2 mkZ x) := by
  intro x h
  refine zCt.of (enc := (ze2 mkZ)) h (by decide) hst (Nat.le_of_ble_eq_true rfl) (fun K hK0 hex hl _ => ?_)
  subst hl
  have hcx : zOk K Z b7_readBody RX7 4 (some .boolean) 3 81 0 0 ∧ ∀ x ∈ K.2.2.2.2.2.2.2.2.2.exceptionTable.toList, False := ⟨hK0, hex⟩
  have hK := hcx.1
  show zG K Z (zΩ Z) (zF K Z (zΩ Z) (ze2 mkZ)) 0 0 0 [(0, .ref (Z.2.2.1 + 292))] [] μ (f7_readBody μ)
  unfold f7_readBody
  refine g_aload_n hK 0 rfl rfl d7_readBody_0 ?_
  refine g_iconst hK d7_readBody_1 zki0 ?_
  refine g_putI hK zfin_7 (fa_7_19 kc_292) q_1216 zc0 rfl (tyX7_ok 19 (by decide)) tyX7 tyX7_ok nmX7 d7_readBody_2 ?_
  refine g_ltM (fun m1 => ?_)
  refine g_iconst hK d7_readBody_5 zki1 ?_
  refine g_istore_n hK (lv2 := [(0, .ref (Z.2.2.1 + 292)), (1, .int (zi 1))]) [1, 0] rfl rfl (by decide) d7_readBody_6 ?_
  exact l7_readBody_7 hcx  zFu 1 m1 zc1
set_option maxRecDepth 20000 in
theorem p7_readSnippet_72 {K : zK} {Z : zZ} (hcx : zOk K Z b7_readSnippet RX7 2 (some .boolean) 4 104 0 0 ∧ ∀ x ∈ K.2.2.2.2.2.2.2.2.2.exceptionTable.toList, False) (k72 : Int → zM → Option (Bool × zM)) (hk72 : ∀ (x1 : Int) (μ : zM) (hx1 : zr x1), zG K Z (zΩ Z) (zF K Z (zΩ Z) (ze2 mkZ)) 0 0 72 [(0, .ref (Z.2.2.1 + 292)), (1, .int (zi x1))] [] μ (k72 x1 μ)) (x1 : Int) (μ : zM) (hx1 : zr x1) : zG K Z (zΩ Z) (zF K Z (zΩ Z) (ze2 mkZ)) 0 0 72 [(0, .ref (Z.2.2.1 + 292)), (1, .int (zi x1))] [] μ (f7_readSnippet_72 k72 x1 μ) := by
  obtain ⟨hK, hex⟩ := id hcx
  unfold f7_readSnippet_72
  refine g_iload_n hK 1 rfl rfl d7_readSnippet_72 ?_
  refine g_bipush hK d7_readSnippet_73 zkb10 ?_
  refine g_icmp_ge hK hx1 zc10 (tgt := 105) (by decide) d7_readSnippet_75 (fun _ => ?_) (fun _ => ?_)
  · refine g_aload_n hK 0 rfl rfl d7_readSnippet_105 ?_
    refine g_getM hK zfin_7 (fa_7_13 kc_292) q_1210 (w := 6) (by decide) d7_readSnippet_106 (fun hm4 => ?_)
    refine g_getRN hK zfin_6 (fa_6_4 hm4) qn_1145 (pt_6_from hm4) d7_readSnippet_109 ?_
    refine g_aload_n hK 0 rfl rfl d7_readSnippet_112 ?_
    refine g_getM hK zfin_7 (fa_7_13 kc_292) q_1210 (w := 6) (by decide) d7_readSnippet_113 (fun hm5 => ?_)
    refine g_getIN hK zfin_6 (fa_6_0 hm5) qn_1138 d7_readSnippet_116 (fun hf5 => ?_)
    refine g_aload_n hK 0 rfl rfl d7_readSnippet_119 ?_
    refine g_getI hK zfin_7 (fa_7_20 kc_292) q_1217 d7_readSnippet_120 (fun hf6 => ?_)
    refine g_iast hK hf6 (pt_6_from_k hm4) d7_readSnippet_123 (fun _ => ?_)
    refine g_ltM (fun m6 => ?_)
    refine g_aload_n hK 0 rfl rfl d7_readSnippet_124 ?_
    refine g_callVcl hK (mk := mkZ) (rm := rm7_readBody) (cb := 0) (sb := 0) (As := []) (b := 292) (n := 0) (c7_readBody K.2.1 hK.2.2.2.2.2.2.2.2.1 Z  m6 ) rfl (ci := 7) rfl (by decide) kc_292 q_1374 q_1376 qs_7_readBody q_7 q_1377 rfl (by decide +kernel) (by decide) (Nat.le_of_ble_eq_true rfl) (Nat.le_of_ble_eq_true rfl) (Nat.le_of_ble_eq_true rfl) rfl d7_readSnippet_125 (fun r5 m7 hr5 hpr5 => ?_)
    refine g_if_ne hK (zb_r r5) (tgt := 133) (by decide) d7_readSnippet_128 (fun _ => ?_) (fun _ => ?_)
    · refine g_aload_n hK 0 rfl rfl d7_readSnippet_133 ?_
      refine g_getM hK zfin_7 (fa_7_13 kc_292) q_1210 (w := 6) (by decide) d7_readSnippet_134 (fun hm6 => ?_)
      refine g_dup hK d7_readSnippet_137 rfl ?_
      refine g_getIN hK zfin_6 (fa_6_0 hm6) qn_1138 d7_readSnippet_138 (fun hf7 => ?_)
      refine g_iconst hK d7_readSnippet_141 zki1 ?_
      refine g_iadd hK d7_readSnippet_142 (fun v1 hv1 => ?_)
      refine g_putIN hK zfin_6 (fa_6_0 hm6) qn_1138 hv1 rfl (tyX6_ok 0 (by decide)) tyX6 tyX6_ok nmX6 d7_readSnippet_143 ?_
      refine g_ltM (fun m8 => ?_)
      refine g_aload_n hK 0 rfl rfl d7_readSnippet_146 ?_
      refine g_getM hK zfin_7 (fa_7_13 kc_292) q_1210 (w := 6) (by decide) d7_readSnippet_147 (fun hm7 => ?_)
      refine g_getRN hK zfin_6 (fa_6_4 hm7) qn_1145 (pt_6_from hm7) d7_readSnippet_150 ?_
      refine g_aload_n hK 0 rfl rfl d7_readSnippet_153 ?_
      refine g_getM hK zfin_7 (fa_7_13 kc_292) q_1210 (w := 6) (by decide) d7_readSnippet_154 (fun hm8 => ?_)
      refine g_getIN hK zfin_6 (fa_6_0 hm8) qn_1138 d7_readSnippet_157 (fun hf8 => ?_)
      refine g_aload_n hK 0 rfl rfl d7_readSnippet_160 ?_
      refine g_getI hK zfin_7 (fa_7_20 kc_292) q_1217 d7_readSnippet_161 (fun hf9 => ?_)
      refine g_iast hK hf9 (pt_6_from_k hm7) d7_readSnippet_164 (fun _ => ?_)
      refine g_ltM (fun m9 => ?_)
      refine g_iconst hK d7_readSnippet_165 zki1 ?_
      exact g_zret hK (by decide) rfl rfl d7_readSnippet_166
    · refine g_iconst hK d7_readSnippet_131 zki0 ?_
      exact g_zret hK (by decide) rfl rfl d7_readSnippet_132
  · refine g_aload_n hK 0 rfl rfl d7_readSnippet_78 ?_
    refine g_getM hK zfin_7 (fa_7_13 kc_292) q_1210 (w := 6) (by decide) d7_readSnippet_79 (fun hm9 => ?_)
    refine g_getRN hK zfin_6 (fa_6_14 hm9) qn_1165 (pt_6_depends hm9) d7_readSnippet_82 ?_
    refine g_bipush hK d7_readSnippet_85 zkb10 ?_
    refine g_aload_n hK 0 rfl rfl d7_readSnippet_87 ?_
    refine g_getM hK zfin_7 (fa_7_13 kc_292) q_1210 (w := 6) (by decide) d7_readSnippet_88 (fun hm10 => ?_)
    refine g_getIN hK zfin_6 (fa_6_0 hm10) qn_1138 d7_readSnippet_91 (fun hf10 => ?_)
    refine g_imul hK d7_readSnippet_94 (fun v2 hv2 => ?_)
    refine g_iload_n hK 1 rfl rfl d7_readSnippet_95 ?_
    refine g_iadd hK d7_readSnippet_96 (fun v3 hv3 => ?_)
    refine g_iconst hK d7_readSnippet_97 zki0 ?_
    refine g_iast hK zc0 (pt_6_depends_k hm9) d7_readSnippet_98 (fun _ => ?_)
    refine g_ltM (fun m10 => ?_)
    refine g_iinc hK (lv2 := fun v4 => [(0, .ref (Z.2.2.1 + 292)), (1, .int (zi v4))]) 1 rfl [1, 0] (fun _ => rfl) (by decide) d7_readSnippet_99 (fun v4 hv4 => ?_)
    refine g_goto hK (tgt := 72) (by decide) d7_readSnippet_102 ?_
    exact hk72 v4 m10 hv4
set_option maxRecDepth 20000 in
theorem l7_readSnippet_72 {K : zK} {Z : zZ} (hcx : zOk K Z b7_readSnippet RX7 2 (some .boolean) 4 104 0 0 ∧ ∀ x ∈ K.2.2.2.2.2.2.2.2.2.exceptionTable.toList, False) : ∀ (i9 : Nat) (x1 : Int) (μ : zM) (hx1 : zr x1), zG K Z (zΩ Z) (zF K Z (zΩ Z) (ze2 mkZ)) 0 0 72 [(0, .ref (Z.2.2.1 + 292)), (1, .int (zi x1))] [] μ (zfx (f7_readSnippet_72) (fun _ _ => none) i9 x1 μ) := by
  intro i9
  induction i9 with
  | zero => intro x1 μ hx1; exact g_none
  | succ i9 ih => intro x1 μ hx1; exact p7_readSnippet_72 hcx  (zfx (f7_readSnippet_72) (fun _ _ => none) i9) ih x1 μ hx1
set_option maxRecDepth 20000 in
theorem c7_readSnippet (l : Launch) (hst : l.stackTraces = false) (Z : zZ) (μ : zM) : ∀ x, f7_readSnippet μ = some x → zCt l Z (zΩ Z) y7_readSnippet (zws (.code y7_readSnippet b7_readSnippet 2 (some .boolean))) rm7_readSnippet [.ref (Z.2.2.1 + 292)] μ (ze2 mkZ x) := by
  intro x h
  refine zCt.of (enc := (ze2 mkZ)) h (by decide) hst (Nat.le_of_ble_eq_true rfl) (fun K hK0 hex hl _ => ?_)
  subst hl
  have hcx : zOk K Z b7_readSnippet RX7 2 (some .boolean) 4 104 0 0 ∧ ∀ x ∈ K.2.2.2.2.2.2.2.2.2.exceptionTable.toList, False := ⟨hK0, hex⟩
  have hK := hcx.1
  show zG K Z (zΩ Z) (zF K Z (zΩ Z) (ze2 mkZ)) 0 0 0 [(0, .ref (Z.2.2.1 + 292))] [] μ (f7_readSnippet μ)
  unfold f7_readSnippet
  refine g_aload_n hK 0 rfl rfl d7_readSnippet_0 ?_
  refine g_getM hK zfin_7 (fa_7_13 kc_292) q_1210 (w := 6) (by decide) d7_readSnippet_1 (fun hm1 => ?_)
  refine g_getIN hK zfin_6 (fa_6_0 hm1) qn_1138 d7_readSnippet_4 (fun hf1 => ?_)
  refine g_bipush hK d7_readSnippet_7 zkb8 ?_
  refine g_icmp_ne hK hf1 zc8 (tgt := 22) (by decide) d7_readSnippet_9 (fun _ => ?_) (fun _ => ?_)
  · refine g_aload_n hK 0 rfl rfl d7_readSnippet_22 ?_
    refine g_callVcl hK (mk := mkZ) (rm := rm7_readName) (cb := 0) (sb := 0) (As := []) (b := 292) (n := 0) (c7_readName K.2.1 hK.2.2.2.2.2.2.2.2.1 Z  μ ) rfl (ci := 7) rfl (by decide) kc_292 q_1362 q_1364 qs_7_readName q_7 q_1365 rfl (by decide +kernel) (by decide) (Nat.le_of_ble_eq_true rfl) (Nat.le_of_ble_eq_true rfl) (Nat.le_of_ble_eq_true rfl) rfl d7_readSnippet_23 (fun r1 m1 hr1 hpr1 => ?_)
    refine g_if_ne hK (zb_r r1) (tgt := 31) (by decide) d7_readSnippet_26 (fun _ => ?_) (fun _ => ?_)
    · refine g_aload_n hK 0 rfl rfl d7_readSnippet_31 ?_
      refine g_callVcm hK (rm := rm7_token) (cb := 0) (sb := 0) (As := []) (b := 292) (n := 0) (c7_token K.2.1 hK.2.2.2.2.2.2.2.2.1 Z  m1 ) rfl (ci := 7) rfl (by decide) kc_292 q_1333 q_1335 qs_7_token q_7 q_1336 rfl (by decide +kernel) (by decide) (Nat.le_of_ble_eq_true rfl) (Nat.le_of_ble_eq_true rfl) (Nat.le_of_ble_eq_true rfl) rfl d7_readSnippet_32 (fun m2 hm2 => ?_)
      refine g_aload_n hK 0 rfl rfl d7_readSnippet_35 ?_
      refine g_bipush hK d7_readSnippet_36 zkb123 ?_
      refine g_callVco hK (mk := mkZ) (rm := rm7_isSign) (cb := 0) (sb := 0) (As := [.int (zi 123)]) (b := 292) (n := 1) (c7_isSign K.2.1 hK.2.2.2.2.2.2.2.2.1 Z 123 m2 zc123) rfl (ci := 7) rfl (by decide) kc_292 q_1370 q_1372 qs_7_isSign q_7 q_1373 rfl (by decide +kernel) (by decide) (Nat.le_of_ble_eq_true rfl) (Nat.le_of_ble_eq_true rfl) (Nat.le_of_ble_eq_true rfl) rfl d7_readSnippet_38 (fun r2 hr2 hpr2 => ?_)
      refine g_if_ne hK (zb_r r2) (tgt := 54) (by decide) d7_readSnippet_41 (fun _ => ?_) (fun _ => ?_)
      · refine g_aload_n hK 0 rfl rfl d7_readSnippet_54 ?_
        refine g_getM hK zfin_7 (fa_7_13 kc_292) q_1210 (w := 6) (by decide) d7_readSnippet_55 (fun hm2 => ?_)
        refine g_getRN hK zfin_6 (fa_6_6 hm2) qn_1149 (pt_6_occurrences hm2) d7_readSnippet_58 ?_
        refine g_aload_n hK 0 rfl rfl d7_readSnippet_61 ?_
        refine g_getM hK zfin_7 (fa_7_13 kc_292) q_1210 (w := 6) (by decide) d7_readSnippet_62 (fun hm3 => ?_)
        refine g_getIN hK zfin_6 (fa_6_0 hm3) qn_1138 d7_readSnippet_65 (fun hf2 => ?_)
        refine g_iconst hK d7_readSnippet_68 zki0 ?_
        refine g_iast hK zc0 (pt_6_occurrences_k hm2) d7_readSnippet_69 (fun _ => ?_)
        refine g_ltM (fun m3 => ?_)
        refine g_iconst hK d7_readSnippet_70 zki0 ?_
        refine g_istore_n hK (lv2 := [(0, .ref (Z.2.2.1 + 292)), (1, .int (zi 0))]) [1, 0] rfl rfl (by decide) d7_readSnippet_71 ?_
        exact l7_readSnippet_72 hcx  zFu 0 m3 zc0
      · refine g_aload_n hK 0 rfl rfl d7_readSnippet_44 ?_
        refine g_iconst hK d7_readSnippet_45 zki1 ?_
        refine g_aload_n hK 0 rfl rfl d7_readSnippet_46 ?_
        refine g_getI hK zfin_7 (fa_7_15 kc_292) q_1212 d7_readSnippet_47 (fun hf3 => ?_)
        refine g_callVcl hK (mk := mkZ) (rm := rm7_fails) (cb := 0) (sb := 0) (As := [.int (zi 1), .int (zi (zI m2 292 15))]) (b := 292) (n := 2) (c7_fails K.2.1 hK.2.2.2.2.2.2.2.2.1 Z 1 (zI m2 292 15) m2 zc1 hf3) rfl (ci := 7) rfl (by decide) kc_292 q_1358 q_1360 qs_7_fails q_7 q_1361 rfl (by decide +kernel) (by decide) (Nat.le_of_ble_eq_true rfl) (Nat.le_of_ble_eq_true rfl) (Nat.le_of_ble_eq_true rfl) rfl d7_readSnippet_50 (fun r3 m4 hr3 hpr3 => ?_)
        exact g_zret hK (zb01 _) rfl rfl d7_readSnippet_53
    · refine g_iconst hK d7_readSnippet_29 zki0 ?_
      exact g_zret hK (by decide) rfl rfl d7_readSnippet_30
  · refine g_aload_n hK 0 rfl rfl d7_readSnippet_12 ?_
    refine g_iconst hK d7_readSnippet_13 zki5 ?_
    refine g_aload_n hK 0 rfl rfl d7_readSnippet_14 ?_
    refine g_getI hK zfin_7 (fa_7_15 kc_292) q_1212 d7_readSnippet_15 (fun hf4 => ?_)
    refine g_callVcl hK (mk := mkZ) (rm := rm7_fails) (cb := 0) (sb := 0) (As := [.int (zi 5), .int (zi (zI μ 292 15))]) (b := 292) (n := 2) (c7_fails K.2.1 hK.2.2.2.2.2.2.2.2.1 Z 5 (zI μ 292 15) μ zc5 hf4) rfl (ci := 7) rfl (by decide) kc_292 q_1358 q_1360 qs_7_fails q_7 q_1361 rfl (by decide +kernel) (by decide) (Nat.le_of_ble_eq_true rfl) (Nat.le_of_ble_eq_true rfl) (Nat.le_of_ble_eq_true rfl) rfl d7_readSnippet_18 (fun r4 m5 hr4 hpr4 => ?_)
    exact g_zret hK (zb01 _) rfl rfl d7_readSnippet_21
set_option maxRecDepth 20000 in
theorem p7_readOrder_50 {K : zK} {Z : zZ} (hcx : zOk K Z b7_readOrder RX7 1 (some .boolean) 7 223 0 0 ∧ ∀ x ∈ K.2.2.2.2.2.2.2.2.2.exceptionTable.toList, False) (s0 : Int) (s1 : Nat) (μ : zM) (hs0 : zr s0) (hs1 : zkd s1 = 6) : zG K Z (zΩ Z) (zF K Z (zΩ Z) (ze2 mkZ)) 0 0 50 [(0, .ref (Z.2.2.1 + 292))] [.int (zi s0), .ref (Z.2.2.1 + s1)] μ (f7_readOrder_50 s0 s1 μ) := by
  obtain ⟨hK, hex⟩ := id hcx
  unfold f7_readOrder_50
  refine g_putIN hK zfin_6 (fa_6_1 hs1) qn_1139 hs0 rfl (tyX6_ok 1 (by decide)) tyX6 tyX6_ok nmX6 d7_readOrder_50 ?_
  refine g_ltM (fun m3 => ?_)
  refine g_aload_n hK 0 rfl rfl d7_readOrder_53 ?_
  refine g_callVcm hK (rm := rm7_token) (cb := 0) (sb := 0) (As := []) (b := 292) (n := 0) (c7_token K.2.1 hK.2.2.2.2.2.2.2.2.1 Z  m3 ) rfl (ci := 7) rfl (by decide) kc_292 q_1333 q_1335 qs_7_token q_7 q_1336 rfl (by decide +kernel) (by decide) (Nat.le_of_ble_eq_true rfl) (Nat.le_of_ble_eq_true rfl) (Nat.le_of_ble_eq_true rfl) rfl d7_readOrder_54 (fun m4 hm4 => ?_)
  refine g_aload_n hK 0 rfl rfl d7_readOrder_57 ?_
  refine g_bipush hK d7_readOrder_58 zkb59 ?_
  refine g_callVco hK (mk := mkZ) (rm := rm7_isSign) (cb := 0) (sb := 0) (As := [.int (zi 59)]) (b := 292) (n := 1) (c7_isSign K.2.1 hK.2.2.2.2.2.2.2.2.1 Z 59 m4 zc59) rfl (ci := 7) rfl (by decide) kc_292 q_1370 q_1372 qs_7_isSign q_7 q_1373 rfl (by decide +kernel) (by decide) (Nat.le_of_ble_eq_true rfl) (Nat.le_of_ble_eq_true rfl) (Nat.le_of_ble_eq_true rfl) rfl d7_readOrder_60 (fun r5 hr5 hpr5 => ?_)
  refine g_if_ne hK (zb_r r5) (tgt := 78) (by decide) d7_readOrder_63 (fun _ => ?_) (fun _ => ?_)
  · refine g_iconst hK d7_readOrder_78 zki1 ?_
    refine g_goto hK (tgt := 83) (by decide) d7_readOrder_79 ?_
    exact g_zret hK (by decide) rfl rfl d7_readOrder_83
  · refine g_aload_n hK 0 rfl rfl d7_readOrder_66 ?_
    refine g_iconst hK d7_readOrder_67 zki1 ?_
    refine g_aload_n hK 0 rfl rfl d7_readOrder_68 ?_
    refine g_getI hK zfin_7 (fa_7_15 kc_292) q_1212 d7_readOrder_69 (fun hf2 => ?_)
    refine g_callVcl hK (mk := mkZ) (rm := rm7_fails) (cb := 0) (sb := 0) (As := [.int (zi 1), .int (zi (zI m4 292 15))]) (b := 292) (n := 2) (c7_fails K.2.1 hK.2.2.2.2.2.2.2.2.1 Z 1 (zI m4 292 15) m4 zc1 hf2) rfl (ci := 7) rfl (by decide) kc_292 q_1358 q_1360 qs_7_fails q_7 q_1361 rfl (by decide +kernel) (by decide) (Nat.le_of_ble_eq_true rfl) (Nat.le_of_ble_eq_true rfl) (Nat.le_of_ble_eq_true rfl) rfl d7_readOrder_72 (fun r6 m5 hr6 hpr6 => ?_)
    refine g_if_eq hK (zb_r r6) (tgt := 82) (by decide) d7_readOrder_75 (fun _ => ?_) (fun _ => ?_)
    · refine g_iconst hK d7_readOrder_82 zki0 ?_
      exact g_zret hK (by decide) rfl rfl d7_readOrder_83
    · refine g_iconst hK d7_readOrder_78 zki1 ?_
      refine g_goto hK (tgt := 83) (by decide) d7_readOrder_79 ?_
      exact g_zret hK (by decide) rfl rfl d7_readOrder_83
set_option maxRecDepth 20000 in
theorem p7_readOrder_32 {K : zK} {Z : zZ} (hcx : zOk K Z b7_readOrder RX7 1 (some .boolean) 7 223 0 0 ∧ ∀ x ∈ K.2.2.2.2.2.2.2.2.2.exceptionTable.toList, False) (μ : zM) : zG K Z (zΩ Z) (zF K Z (zΩ Z) (ze2 mkZ)) 0 0 32 [(0, .ref (Z.2.2.1 + 292))] [] μ (f7_readOrder_32 μ) := by
  obtain ⟨hK, hex⟩ := id hcx
  unfold f7_readOrder_32
  refine g_aload_n hK 0 rfl rfl d7_readOrder_32 ?_
  refine g_getM hK zfin_7 (fa_7_13 kc_292) q_1210 (w := 6) (by decide) d7_readOrder_33 (fun hm1 => ?_)
  refine g_aload_n hK 0 rfl rfl d7_readOrder_36 ?_
  refine g_ldcS hK (i9 := 20) rfl d7_readOrder_37 ?_
  refine g_callVco hK (mk := mkZ) (rm := rm7_is) (cb := 0) (sb := 0) (As := [.ref (Z.2.2.2.1 20)]) (b := 292) (n := 1) (c7_is K.2.1 hK.2.2.2.2.2.2.2.2.1 Z 20 μ ) rfl (ci := 7) rfl (by decide) kc_292 q_1348 q_1350 qs_7_is q_7 q_1351 rfl (by decide +kernel) (by decide) (Nat.le_of_ble_eq_true rfl) (Nat.le_of_ble_eq_true rfl) (Nat.le_of_ble_eq_true rfl) rfl d7_readOrder_39 (fun r4 hr4 hpr4 => ?_)
  refine g_if_eq hK (zb_r r4) (tgt := 49) (by decide) d7_readOrder_42 (fun _ => ?_) (fun _ => ?_)
  · refine g_iconst hK d7_readOrder_49 zki0 ?_
    exact p7_readOrder_50 hcx  0 (zR μ 292 13) μ zc0 hm1
  · refine g_iconst hK d7_readOrder_45 zki1 ?_
    refine g_goto hK (tgt := 50) (by decide) d7_readOrder_46 ?_
    exact p7_readOrder_50 hcx  1 (zR μ 292 13) μ zc1 hm1
set_option maxRecDepth 20000 in
theorem c7_readOrder (l : Launch) (hst : l.stackTraces = false) (Z : zZ) (μ : zM) : ∀ x, f7_readOrder μ = some x → zCt l Z (zΩ Z) y7_readOrder (zws (.code y7_readOrder b7_readOrder 1 (some .boolean))) rm7_readOrder [.ref (Z.2.2.1 + 292)] μ (ze2 mkZ x) := by
  intro x h
  refine zCt.of (enc := (ze2 mkZ)) h (by decide) hst (Nat.le_of_ble_eq_true rfl) (fun K hK0 hex hl _ => ?_)
  subst hl
  have hcx : zOk K Z b7_readOrder RX7 1 (some .boolean) 7 223 0 0 ∧ ∀ x ∈ K.2.2.2.2.2.2.2.2.2.exceptionTable.toList, False := ⟨hK0, hex⟩
  have hK := hcx.1
  show zG K Z (zΩ Z) (zF K Z (zΩ Z) (ze2 mkZ)) 0 0 0 [(0, .ref (Z.2.2.1 + 292))] [] μ (f7_readOrder μ)
  unfold f7_readOrder
  refine g_aload_n hK 0 rfl rfl d7_readOrder_0 ?_
  refine g_callVcm hK (rm := rm7_token) (cb := 0) (sb := 0) (As := []) (b := 292) (n := 0) (c7_token K.2.1 hK.2.2.2.2.2.2.2.2.1 Z  μ ) rfl (ci := 7) rfl (by decide) kc_292 q_1333 q_1335 qs_7_token q_7 q_1336 rfl (by decide +kernel) (by decide) (Nat.le_of_ble_eq_true rfl) (Nat.le_of_ble_eq_true rfl) (Nat.le_of_ble_eq_true rfl) rfl d7_readOrder_1 (fun m1 hm1 => ?_)
  refine g_aload_n hK 0 rfl rfl d7_readOrder_4 ?_
  refine g_ldcS hK (i9 := 19) rfl d7_readOrder_5 ?_
  refine g_callVco hK (mk := mkZ) (rm := rm7_is) (cb := 0) (sb := 0) (As := [.ref (Z.2.2.2.1 19)]) (b := 292) (n := 1) (c7_is K.2.1 hK.2.2.2.2.2.2.2.2.1 Z 19 m1 ) rfl (ci := 7) rfl (by decide) kc_292 q_1348 q_1350 qs_7_is q_7 q_1351 rfl (by decide +kernel) (by decide) (Nat.le_of_ble_eq_true rfl) (Nat.le_of_ble_eq_true rfl) (Nat.le_of_ble_eq_true rfl) rfl d7_readOrder_7 (fun r1 hr1 hpr1 => ?_)
  refine g_if_ne hK (zb_r r1) (tgt := 32) (by decide) d7_readOrder_10 (fun _ => ?_) (fun _ => ?_)
  · exact p7_readOrder_32 hcx   m1 
  · refine g_aload_n hK 0 rfl rfl d7_readOrder_13 ?_
    refine g_ldcS hK (i9 := 20) rfl d7_readOrder_14 ?_
    refine g_callVco hK (mk := mkZ) (rm := rm7_is) (cb := 0) (sb := 0) (As := [.ref (Z.2.2.2.1 20)]) (b := 292) (n := 1) (c7_is K.2.1 hK.2.2.2.2.2.2.2.2.1 Z 20 m1 ) rfl (ci := 7) rfl (by decide) kc_292 q_1348 q_1350 qs_7_is q_7 q_1351 rfl (by decide +kernel) (by decide) (Nat.le_of_ble_eq_true rfl) (Nat.le_of_ble_eq_true rfl) (Nat.le_of_ble_eq_true rfl) rfl d7_readOrder_16 (fun r2 hr2 hpr2 => ?_)
    refine g_if_ne hK (zb_r r2) (tgt := 32) (by decide) d7_readOrder_19 (fun _ => ?_) (fun _ => ?_)
    · exact p7_readOrder_32 hcx   m1 
    · refine g_aload_n hK 0 rfl rfl d7_readOrder_22 ?_
      refine g_iconst hK d7_readOrder_23 zki1 ?_
      refine g_aload_n hK 0 rfl rfl d7_readOrder_24 ?_
      refine g_getI hK zfin_7 (fa_7_15 kc_292) q_1212 d7_readOrder_25 (fun hf1 => ?_)
      refine g_callVcl hK (mk := mkZ) (rm := rm7_fails) (cb := 0) (sb := 0) (As := [.int (zi 1), .int (zi (zI m1 292 15))]) (b := 292) (n := 2) (c7_fails K.2.1 hK.2.2.2.2.2.2.2.2.1 Z 1 (zI m1 292 15) m1 zc1 hf1) rfl (ci := 7) rfl (by decide) kc_292 q_1358 q_1360 qs_7_fails q_7 q_1361 rfl (by decide +kernel) (by decide) (Nat.le_of_ble_eq_true rfl) (Nat.le_of_ble_eq_true rfl) (Nat.le_of_ble_eq_true rfl) rfl d7_readOrder_28 (fun r3 m2 hr3 hpr3 => ?_)
      exact g_zret hK (zb01 _) rfl rfl d7_readOrder_31
set_option maxRecDepth 20000 in
theorem p7_readAll_56 {K : zK} {Z : zZ} (hcx : zOk K Z b7_readAll RX7 2 (some .boolean) 8 243 0 0 ∧ ∀ x ∈ K.2.2.2.2.2.2.2.2.2.exceptionTable.toList, False) (k4 : zM → Option (Bool × zM)) (hk4 : ∀ (μ : zM), zG K Z (zΩ Z) (zF K Z (zΩ Z) (ze2 mkZ)) 0 0 4 [(0, .ref (Z.2.2.1 + 292))] [] μ (k4 μ)) (s0 : Int) (μ : zM) (hs0 : zr s0) : zG K Z (zΩ Z) (zF K Z (zΩ Z) (ze2 mkZ)) 0 0 56 [(0, .ref (Z.2.2.1 + 292))] [.int (zi s0)] μ (f7_readAll_56 k4 s0 μ) := by
  obtain ⟨hK, hex⟩ := id hcx
  unfold f7_readAll_56
  refine g_istore_n hK (lv2 := [(0, .ref (Z.2.2.1 + 292)), (1, .int (zi s0))]) [1, 0] rfl rfl (by decide) d7_readAll_56 ?_
  refine g_iload_n hK 1 rfl rfl d7_readAll_57 ?_
  refine g_if_ne hK hs0 (tgt := 63) (by decide) d7_readAll_58 (fun _ => ?_) (fun _ => ?_)
  · refine g_aload_n hK 0 rfl rfl d7_readAll_63 ?_
    refine g_callVcm hK (rm := rm7_token) (cb := 0) (sb := 0) (As := []) (b := 292) (n := 0) (c7_token K.2.1 hK.2.2.2.2.2.2.2.2.1 Z  μ ) rfl (ci := 7) rfl (by decide) kc_292 q_1333 q_1335 qs_7_token q_7 q_1336 rfl (by decide +kernel) (by decide) (Nat.le_of_ble_eq_true rfl) (Nat.le_of_ble_eq_true rfl) (Nat.le_of_ble_eq_true rfl) rfl d7_readAll_64 (fun m5 hm5 => ?_)
    refine g_goto hK (tgt := 4) (by decide) d7_readAll_67 ?_
    refine g_lv (lv2 := [(0, .ref (Z.2.2.1 + 292))]) [0] rfl ?_
    exact hk4  m5 
  · refine g_iconst hK d7_readAll_61 zki0 ?_
    exact g_zret hK (by decide) rfl rfl d7_readAll_62
set_option maxRecDepth 20000 in
theorem p7_readAll_4 {K : zK} {Z : zZ} (hcx : zOk K Z b7_readAll RX7 2 (some .boolean) 8 243 0 0 ∧ ∀ x ∈ K.2.2.2.2.2.2.2.2.2.exceptionTable.toList, False) (k4 : zM → Option (Bool × zM)) (hk4 : ∀ (μ : zM), zG K Z (zΩ Z) (zF K Z (zΩ Z) (ze2 mkZ)) 0 0 4 [(0, .ref (Z.2.2.1 + 292))] [] μ (k4 μ)) (μ : zM) : zG K Z (zΩ Z) (zF K Z (zΩ Z) (ze2 mkZ)) 0 0 4 [(0, .ref (Z.2.2.1 + 292))] [] μ (f7_readAll_4 k4 μ) := by
  obtain ⟨hK, hex⟩ := id hcx
  unfold f7_readAll_4
  refine g_aload_n hK 0 rfl rfl d7_readAll_4 ?_
  refine g_getI hK zfin_7 (fa_7_16 kc_292) q_1213 d7_readAll_5 (fun hf1 => ?_)
  refine g_aload_n hK 0 rfl rfl d7_readAll_8 ?_
  refine g_getI hK zfin_7 (fa_7_15 kc_292) q_1212 d7_readAll_9 (fun hf2 => ?_)
  refine g_icmp_le hK hf1 hf2 (tgt := 70) (by decide) d7_readAll_12 (fun _ => ?_) (fun _ => ?_)
  · refine g_iconst hK d7_readAll_70 zki1 ?_
    exact g_zret hK (by decide) rfl rfl d7_readAll_71
  · refine g_aload_n hK 0 rfl rfl d7_readAll_15 ?_
    refine g_ldcS hK (i9 := 17) rfl d7_readAll_16 ?_
    refine g_callVco hK (mk := mkZ) (rm := rm7_is) (cb := 0) (sb := 0) (As := [.ref (Z.2.2.2.1 17)]) (b := 292) (n := 1) (c7_is K.2.1 hK.2.2.2.2.2.2.2.2.1 Z 17 μ ) rfl (ci := 7) rfl (by decide) kc_292 q_1348 q_1350 qs_7_is q_7 q_1351 rfl (by decide +kernel) (by decide) (Nat.le_of_ble_eq_true rfl) (Nat.le_of_ble_eq_true rfl) (Nat.le_of_ble_eq_true rfl) rfl d7_readAll_18 (fun r1 hr1 hpr1 => ?_)
    refine g_if_eq hK (zb_r r1) (tgt := 31) (by decide) d7_readAll_21 (fun _ => ?_) (fun _ => ?_)
    · refine g_aload_n hK 0 rfl rfl d7_readAll_31 ?_
      refine g_ldcS hK (i9 := 18) rfl d7_readAll_32 ?_
      refine g_callVco hK (mk := mkZ) (rm := rm7_is) (cb := 0) (sb := 0) (As := [.ref (Z.2.2.2.1 18)]) (b := 292) (n := 1) (c7_is K.2.1 hK.2.2.2.2.2.2.2.2.1 Z 18 μ ) rfl (ci := 7) rfl (by decide) kc_292 q_1348 q_1350 qs_7_is q_7 q_1351 rfl (by decide +kernel) (by decide) (Nat.le_of_ble_eq_true rfl) (Nat.le_of_ble_eq_true rfl) (Nat.le_of_ble_eq_true rfl) rfl d7_readAll_34 (fun r2 hr2 hpr2 => ?_)
      refine g_if_eq hK (zb_r r2) (tgt := 47) (by decide) d7_readAll_37 (fun _ => ?_) (fun _ => ?_)
      · refine g_aload_n hK 0 rfl rfl d7_readAll_47 ?_
        refine g_iconst hK d7_readAll_48 zki1 ?_
        refine g_aload_n hK 0 rfl rfl d7_readAll_49 ?_
        refine g_getI hK zfin_7 (fa_7_15 kc_292) q_1212 d7_readAll_50 (fun hf3 => ?_)
        refine g_callVcl hK (mk := mkZ) (rm := rm7_fails) (cb := 0) (sb := 0) (As := [.int (zi 1), .int (zi (zI μ 292 15))]) (b := 292) (n := 2) (c7_fails K.2.1 hK.2.2.2.2.2.2.2.2.1 Z 1 (zI μ 292 15) μ zc1 hf3) rfl (ci := 7) rfl (by decide) kc_292 q_1358 q_1360 qs_7_fails q_7 q_1361 rfl (by decide +kernel) (by decide) (Nat.le_of_ble_eq_true rfl) (Nat.le_of_ble_eq_true rfl) (Nat.le_of_ble_eq_true rfl) rfl d7_readAll_53 (fun r3 m2 hr3 hpr3 => ?_)
        exact p7_readAll_56 hcx k4 hk4 (zb r3) m2 (zb_r r3)
      · refine g_aload_n hK 0 rfl rfl d7_readAll_40 ?_
        refine g_callVcl hK (mk := mkZ) (rm := rm7_readOrder) (cb := 0) (sb := 0) (As := []) (b := 292) (n := 0) (c7_readOrder K.2.1 hK.2.2.2.2.2.2.2.2.1 Z  μ ) rfl (ci := 7) rfl (by decide) kc_292 q_1405 q_1407 qs_7_readOrder q_7 q_1408 rfl (by decide +kernel) (by decide) (Nat.le_of_ble_eq_true rfl) (Nat.le_of_ble_eq_true rfl) (Nat.le_of_ble_eq_true rfl) rfl d7_readAll_41 (fun r4 m3 hr4 hpr4 => ?_)
        refine g_goto hK (tgt := 56) (by decide) d7_readAll_44 ?_
        exact p7_readAll_56 hcx k4 hk4 (zb r4) m3 (zb_r r4)
    · refine g_aload_n hK 0 rfl rfl d7_readAll_24 ?_
      refine g_callVcl hK (mk := mkZ) (rm := rm7_readSnippet) (cb := 0) (sb := 0) (As := []) (b := 292) (n := 0) (c7_readSnippet K.2.1 hK.2.2.2.2.2.2.2.2.1 Z  μ ) rfl (ci := 7) rfl (by decide) kc_292 q_1354 q_1356 qs_7_readSnippet q_7 q_1357 rfl (by decide +kernel) (by decide) (Nat.le_of_ble_eq_true rfl) (Nat.le_of_ble_eq_true rfl) (Nat.le_of_ble_eq_true rfl) rfl d7_readAll_25 (fun r5 m4 hr5 hpr5 => ?_)
      refine g_goto hK (tgt := 56) (by decide) d7_readAll_28 ?_
      exact p7_readAll_56 hcx k4 hk4 (zb r5) m4 (zb_r r5)
set_option maxRecDepth 20000 in
theorem l7_readAll_4 {K : zK} {Z : zZ} (hcx : zOk K Z b7_readAll RX7 2 (some .boolean) 8 243 0 0 ∧ ∀ x ∈ K.2.2.2.2.2.2.2.2.2.exceptionTable.toList, False) : ∀ (i9 : Nat) (μ : zM), zG K Z (zΩ Z) (zF K Z (zΩ Z) (ze2 mkZ)) 0 0 4 [(0, .ref (Z.2.2.1 + 292))] [] μ (zfx (f7_readAll_4) (fun _ => none) i9 μ) := by
  intro i9
  induction i9 with
  | zero => intro  μ ; exact g_none
  | succ i9 ih => intro  μ ; exact p7_readAll_4 hcx  (zfx (f7_readAll_4) (fun _ => none) i9) ih  μ 
set_option maxRecDepth 20000 in
theorem c7_readAll (l : Launch) (hst : l.stackTraces = false) (Z : zZ) (μ : zM) : ∀ x, f7_readAll μ = some x → zCt l Z (zΩ Z) y7_readAll (zws (.code y7_readAll b7_readAll 2 (some .boolean))) rm7_readAll [.ref (Z.2.2.1 + 292)] μ (ze2 mkZ x) := by
  intro x h
  refine zCt.of (enc := (ze2 mkZ)) h (by decide) hst (Nat.le_of_ble_eq_true rfl) (fun K hK0 hex hl _ => ?_)
  subst hl
  have hcx : zOk K Z b7_readAll RX7 2 (some .boolean) 8 243 0 0 ∧ ∀ x ∈ K.2.2.2.2.2.2.2.2.2.exceptionTable.toList, False := ⟨hK0, hex⟩
  have hK := hcx.1
  show zG K Z (zΩ Z) (zF K Z (zΩ Z) (ze2 mkZ)) 0 0 0 [(0, .ref (Z.2.2.1 + 292))] [] μ (f7_readAll μ)
  unfold f7_readAll
  refine g_aload_n hK 0 rfl rfl d7_readAll_0 ?_
  refine g_callVcm hK (rm := rm7_token) (cb := 0) (sb := 0) (As := []) (b := 292) (n := 0) (c7_token K.2.1 hK.2.2.2.2.2.2.2.2.1 Z  μ ) rfl (ci := 7) rfl (by decide) kc_292 q_1333 q_1335 qs_7_token q_7 q_1336 rfl (by decide +kernel) (by decide) (Nat.le_of_ble_eq_true rfl) (Nat.le_of_ble_eq_true rfl) (Nat.le_of_ble_eq_true rfl) rfl d7_readAll_1 (fun m1 hm1 => ?_)
  exact l7_readAll_4 hcx  zFu  m1 
set_option maxRecDepth 20000 in
theorem p7_load_77 {K : zK} {Z : zZ} (hcx : zOk K Z b7_load RX7 4 (some .int) 9 264 0 0 ∧ ∀ x ∈ K.2.2.2.2.2.2.2.2.2.exceptionTable.toList, False) (k77 : Int → zM → Option (Int × zM)) (hk77 : ∀ (x3 : Int) (μ : zM) (hx3 : zr x3), zG K Z (zΩ Z) (zF K Z (zΩ Z) (ze2 mkI)) 0 0 77 [(0, .ref (Z.2.2.1 + 292)), (3, .int (zi x3))] [] μ (k77 x3 μ)) (x3 : Int) (μ : zM) (hx3 : zr x3) : zG K Z (zΩ Z) (zF K Z (zΩ Z) (ze2 mkI)) 0 0 77 [(0, .ref (Z.2.2.1 + 292)), (3, .int (zi x3))] [] μ (f7_load_77 k77 x3 μ) := by
  obtain ⟨hK, hex⟩ := id hcx
  unfold f7_load_77
  refine g_iload_n hK 1 rfl rfl d7_load_77 ?_
  refine g_sipush hK d7_load_78 zks2256 ?_
  refine g_icmp_ge hK hx3 zc2256 (tgt := 97) (by decide) d7_load_81 (fun _ => ?_) (fun _ => ?_)
  · refine g_aload_n hK 0 rfl rfl d7_load_97 ?_
    refine g_getR hK zfin_7 (fa_7_1 kc_292) q_1198 (r := 293) (by decide +kernel) d7_load_98 ?_
    refine g_iconst hK d7_load_101 zki1 ?_
    refine g_aload_n hK 0 rfl rfl d7_load_102 ?_
    refine g_getM hK zfin_7 (fa_7_8 kc_292) q_1205 (w := 6) (by decide) d7_load_103 (fun hm5 => ?_)
    refine g_getIN hK zfin_6 (fa_6_1 hm5) qn_1139 d7_load_106 (fun hf1 => ?_)
    refine g_iast hK hf1 kc_293 d7_load_109 (fun _ => ?_)
    refine g_ltM (fun m12 => ?_)
    refine g_aload_n hK 0 rfl rfl d7_load_110 ?_
    refine g_iconst hK d7_load_111 zki0 ?_
    refine g_putI hK zfin_7 (fa_7_7 kc_292) q_1204 zc0 rfl (tyX7_ok 7 (by decide)) tyX7 tyX7_ok nmX7 d7_load_112 ?_
    refine g_ltM (fun m13 => ?_)
    refine g_aload_n hK 0 rfl rfl d7_load_115 ?_
    refine g_getR hK zfin_7 (fa_7_5 kc_292) q_1202 (r := 297) (by decide +kernel) d7_load_116 ?_
    refine g_iconst hK d7_load_119 zki0 ?_
    refine g_iconst hK d7_load_120 zki0 ?_
    refine g_zast hK kc_297 d7_load_121 (fun _ => ?_)
    refine g_ltM (fun m14 => ?_)
    refine g_aload_n hK 0 rfl rfl d7_load_122 ?_
    refine g_getR hK zfin_7 (fa_7_5 kc_292) q_1202 (r := 297) (by decide +kernel) d7_load_123 ?_
    refine g_iconst hK d7_load_126 zki1 ?_
    refine g_iconst hK d7_load_127 zki0 ?_
    refine g_zast hK kc_297 d7_load_128 (fun _ => ?_)
    refine g_ltM (fun m15 => ?_)
    refine g_aload_n hK 0 rfl rfl d7_load_129 ?_
    refine g_getM hK zfin_7 (fa_7_8 kc_292) q_1205 (w := 6) (by decide) d7_load_130 (fun hm6 => ?_)
    refine g_getIN hK zfin_6 (fa_6_0 hm6) qn_1138 d7_load_133 (fun hf2 => ?_)
    exact g_iret hK hf2 rfl rfl d7_load_136
  · refine g_aload_n hK 0 rfl rfl d7_load_84 ?_
    refine g_getR hK zfin_7 (fa_7_1 kc_292) q_1198 (r := 293) (by decide +kernel) d7_load_85 ?_
    refine g_iload_n hK 1 rfl rfl d7_load_88 ?_
    refine g_iconst hK d7_load_89 zki0 ?_
    refine g_iast hK zc0 kc_293 d7_load_90 (fun _ => ?_)
    refine g_ltM (fun m16 => ?_)
    refine g_iinc hK (lv2 := fun v1 => [(0, .ref (Z.2.2.1 + 292)), (3, .int (zi v1))]) 1 rfl [1, 0] (fun _ => rfl) (by decide) d7_load_91 (fun v1 hv1 => ?_)
    refine g_goto hK (tgt := 77) (by decide) d7_load_94 ?_
    exact hk77 v1 m16 hv1
set_option maxRecDepth 20000 in
theorem l7_load_77 {K : zK} {Z : zZ} (hcx : zOk K Z b7_load RX7 4 (some .int) 9 264 0 0 ∧ ∀ x ∈ K.2.2.2.2.2.2.2.2.2.exceptionTable.toList, False) : ∀ (i9 : Nat) (x3 : Int) (μ : zM) (hx3 : zr x3), zG K Z (zΩ Z) (zF K Z (zΩ Z) (ze2 mkI)) 0 0 77 [(0, .ref (Z.2.2.1 + 292)), (3, .int (zi x3))] [] μ (zfx (f7_load_77) (fun _ _ => none) i9 x3 μ) := by
  intro i9
  induction i9 with
  | zero => intro x3 μ hx3; exact g_none
  | succ i9 ih => intro x3 μ hx3; exact p7_load_77 hcx  (zfx (f7_load_77) (fun _ _ => none) i9) ih x3 μ hx3
set_option maxRecDepth 20000 in
theorem c7_load (l : Launch) (hst : l.stackTraces = false) (Z : zZ) (μ : zM) : ∀ x, f7_load μ = some x → zCt l Z (zΩ Z) y7_load (zws (.code y7_load b7_load 4 (some .int))) rm7_load [.ref (Z.2.2.1 + 292)] μ (ze2 mkI x) := by
  intro x h
  refine zCt.of (enc := (ze2 mkI)) h (by decide) hst (Nat.le_of_ble_eq_true rfl) (fun K hK0 hex hl _ => ?_)
  subst hl
  have hcx : zOk K Z b7_load RX7 4 (some .int) 9 264 0 0 ∧ ∀ x ∈ K.2.2.2.2.2.2.2.2.2.exceptionTable.toList, False := ⟨hK0, hex⟩
  have hK := hcx.1
  show zG K Z (zΩ Z) (zF K Z (zΩ Z) (ze2 mkI)) 0 0 0 [(0, .ref (Z.2.2.1 + 292))] [] μ (f7_load μ)
  unfold f7_load
  refine g_aload_n hK 0 rfl rfl d7_load_0 ?_
  refine g_iconst hK d7_load_1 zki0 ?_
  refine g_putI hK zfin_7 (fa_7_0 kc_292) q_1197 zc0 rfl (tyX7_ok 0 (by decide)) tyX7 tyX7_ok nmX7 d7_load_2 ?_
  refine g_ltM (fun m1 => ?_)
  refine g_aload_n hK 0 rfl rfl d7_load_5 ?_
  refine g_iconst hK d7_load_6 zki0 ?_
  refine g_putI hK zfin_7 (fa_7_11 kc_292) q_1208 zc0 rfl (tyX7_ok 11 (by decide)) tyX7 tyX7_ok nmX7 d7_load_7 ?_
  refine g_ltM (fun m2 => ?_)
  refine g_aload_n hK 0 rfl rfl d7_load_10 ?_
  refine g_iconst hK d7_load_11 zkim1 ?_
  refine g_putI hK zfin_7 (fa_7_12 kc_292) q_1209 zcm1 rfl (tyX7_ok 12 (by decide)) tyX7 tyX7_ok nmX7 d7_load_12 ?_
  refine g_ltM (fun m3 => ?_)
  refine g_aload_n hK 0 rfl rfl d7_load_15 ?_
  refine g_iconst hK d7_load_16 zki0 ?_
  refine g_putI hK zfin_7 (fa_7_14 kc_292) q_1211 zc0 rfl (tyX7_ok 14 (by decide)) tyX7 tyX7_ok nmX7 d7_load_17 ?_
  refine g_ltM (fun m4 => ?_)
  refine g_aload_n hK 0 rfl rfl d7_load_20 ?_
  refine g_iconst hK d7_load_21 zki0 ?_
  refine g_putI hK zfin_7 (fa_7_20 kc_292) q_1217 zc0 rfl (tyX7_ok 20 (by decide)) tyX7 tyX7_ok nmX7 d7_load_22 ?_
  refine g_ltM (fun m5 => ?_)
  refine g_aload_n hK 0 rfl rfl d7_load_25 ?_
  refine g_getM hK zfin_7 (fa_7_13 kc_292) q_1210 (w := 6) (by decide) d7_load_26 (fun hm1 => ?_)
  refine g_iconst hK d7_load_29 zki0 ?_
  refine g_putIN hK zfin_6 (fa_6_0 hm1) qn_1138 zc0 rfl (tyX6_ok 0 (by decide)) tyX6 tyX6_ok nmX6 d7_load_30 ?_
  refine g_ltM (fun m6 => ?_)
  refine g_aload_n hK 0 rfl rfl d7_load_33 ?_
  refine g_getM hK zfin_7 (fa_7_13 kc_292) q_1210 (w := 6) (by decide) d7_load_34 (fun hm2 => ?_)
  refine g_iconst hK d7_load_37 zki0 ?_
  refine g_putIN hK zfin_6 (fa_6_1 hm2) qn_1139 zc0 rfl (tyX6_ok 1 (by decide)) tyX6 tyX6_ok nmX6 d7_load_38 ?_
  refine g_ltM (fun m7 => ?_)
  refine g_aload_n hK 0 rfl rfl d7_load_41 ?_
  refine g_callVcl hK (mk := mkZ) (rm := rm7_readAll) (cb := 0) (sb := 0) (As := []) (b := 292) (n := 0) (c7_readAll K.2.1 hK.2.2.2.2.2.2.2.2.1 Z  m7 ) rfl (ci := 7) rfl (by decide) kc_292 q_1329 q_1331 qs_7_readAll q_7 q_1332 rfl (by decide +kernel) (by decide) (Nat.le_of_ble_eq_true rfl) (Nat.le_of_ble_eq_true rfl) (Nat.le_of_ble_eq_true rfl) rfl d7_load_42 (fun r1 m8 hr1 hpr1 => ?_)
  refine g_istore_n hK (lv2 := [(0, .ref (Z.2.2.1 + 292)), (1, .int (zi (zb r1)))]) [1, 0] rfl rfl (by decide) d7_load_45 ?_
  refine g_aload_n hK 0 rfl rfl d7_load_46 ?_
  refine g_iconst hK d7_load_47 zki0 ?_
  refine g_putI hK zfin_7 (fa_7_10 kc_292) q_1207 zc0 rfl (tyX7_ok 10 (by decide)) tyX7 tyX7_ok nmX7 d7_load_48 ?_
  refine g_ltM (fun m9 => ?_)
  refine g_iload_n hK 1 rfl rfl d7_load_51 ?_
  refine g_if_ne hK (zb_r r1) (tgt := 57) (by decide) d7_load_52 (fun _ => ?_) (fun _ => ?_)
  · refine g_aload_n hK 0 rfl rfl d7_load_57 ?_
    refine g_getM hK zfin_7 (fa_7_8 kc_292) q_1205 (w := 6) (by decide) d7_load_58 (fun hm3 => ?_)
    refine g_astore_n hK (lv2 := [(0, .ref (Z.2.2.1 + 292)), (1, .int (zi (zb r1))), (2, .ref (Z.2.2.1 + (zR m9 292 8)))]) [1, 2, 0] rfl rfl (by decide) d7_load_61 ?_
    refine g_aload_n hK 0 rfl rfl d7_load_62 ?_
    refine g_aload_n hK 0 rfl rfl d7_load_63 ?_
    refine g_getM hK zfin_7 (fa_7_13 kc_292) q_1210 (w := 6) (by decide) d7_load_64 (fun hm4 => ?_)
    refine g_putR hK (r := (zR m9 292 13)) (w := 6) zfin_7 (fa_7_8 kc_292) q_1205 (by decide +kernel) (by decide) hm4 (zkd_ne0 hm4 (by decide)) (fun _ => rfl) (fun _ => rfl) rfl (tyX7_ok 8 (by decide)) tyX7 tyX7_ok nmX7 d7_load_67 ?_
    refine g_ltM (fun m10 => ?_)
    refine g_aload_n hK 0 rfl rfl d7_load_70 ?_
    refine g_aload_n hK 2 rfl rfl d7_load_71 ?_
    refine g_putR hK (r := (zR m9 292 8)) (w := 6) zfin_7 (fa_7_13 kc_292) q_1210 (by decide +kernel) (by decide) hm3 (zkd_ne0 hm3 (by decide)) (fun _ => rfl) (fun _ => rfl) rfl (tyX7_ok 13 (by decide)) tyX7 tyX7_ok nmX7 d7_load_72 ?_
    refine g_ltM (fun m11 => ?_)
    refine g_iconst hK d7_load_75 zki0 ?_
    refine g_istore_n hK (lv2 := [(0, .ref (Z.2.2.1 + 292)), (1, .int (zi (zb r1))), (2, .ref (Z.2.2.1 + (zR m9 292 8))), (3, .int (zi 0))]) [1, 2, 3, 0] rfl rfl (by decide) d7_load_76 ?_
    refine g_lv (lv2 := [(0, .ref (Z.2.2.1 + 292)), (3, .int (zi 0))]) [0, 3] rfl ?_
    exact l7_load_77 hcx  zFu 0 m11 zc0
  · refine g_iconst hK d7_load_55 zkim1 ?_
    exact g_iret hK zcm1 rfl rfl d7_load_56
set_option maxRecDepth 20000 in
theorem c7_errorCode (l : Launch) (hst : l.stackTraces = false) (Z : zZ) (μ : zM) : ∀ x, f7_errorCode μ = some x → zCt l Z (zΩ Z) y7_errorCode (zws (.code y7_errorCode b7_errorCode 1 (some .int))) rm7_errorCode [.ref (Z.2.2.1 + 292)] μ (ze2 mkI x) := by
  intro x h
  refine zCt.of (enc := (ze2 mkI)) h (by decide) hst (Nat.le_of_ble_eq_true rfl) (fun K hK0 hex hl _ => ?_)
  subst hl
  have hcx : zOk K Z b7_errorCode RX7 1 (some .int) 0 8 0 0 ∧ ∀ x ∈ K.2.2.2.2.2.2.2.2.2.exceptionTable.toList, False := ⟨hK0, hex⟩
  have hK := hcx.1
  show zG K Z (zΩ Z) (zF K Z (zΩ Z) (ze2 mkI)) 0 0 0 [(0, .ref (Z.2.2.1 + 292))] [] μ (f7_errorCode μ)
  unfold f7_errorCode
  refine g_aload_n hK 0 rfl rfl d7_errorCode_0 ?_
  refine g_iconst hK d7_errorCode_1 zki0 ?_
  refine g_putI hK zfin_7 (fa_7_0 kc_292) q_1197 zc0 rfl (tyX7_ok 0 (by decide)) tyX7 tyX7_ok nmX7 d7_errorCode_2 ?_
  refine g_ltM (fun m1 => ?_)
  refine g_aload_n hK 0 rfl rfl d7_errorCode_5 ?_
  refine g_getI hK zfin_7 (fa_7_11 kc_292) q_1208 d7_errorCode_6 (fun hf1 => ?_)
  exact g_iret hK hf1 rfl rfl d7_errorCode_9
set_option maxRecDepth 20000 in
theorem c7_errorPosition (l : Launch) (hst : l.stackTraces = false) (Z : zZ) (μ : zM) : ∀ x, f7_errorPosition μ = some x → zCt l Z (zΩ Z) y7_errorPosition (zws (.code y7_errorPosition b7_errorPosition 1 (some .int))) rm7_errorPosition [.ref (Z.2.2.1 + 292)] μ (ze2 mkI x) := by
  intro x h
  refine zCt.of (enc := (ze2 mkI)) h (by decide) hst (Nat.le_of_ble_eq_true rfl) (fun K hK0 hex hl _ => ?_)
  subst hl
  have hcx : zOk K Z b7_errorPosition RX7 1 (some .int) 0 8 0 0 ∧ ∀ x ∈ K.2.2.2.2.2.2.2.2.2.exceptionTable.toList, False := ⟨hK0, hex⟩
  have hK := hcx.1
  show zG K Z (zΩ Z) (zF K Z (zΩ Z) (ze2 mkI)) 0 0 0 [(0, .ref (Z.2.2.1 + 292))] [] μ (f7_errorPosition μ)
  unfold f7_errorPosition
  refine g_aload_n hK 0 rfl rfl d7_errorPosition_0 ?_
  refine g_iconst hK d7_errorPosition_1 zki0 ?_
  refine g_putI hK zfin_7 (fa_7_0 kc_292) q_1197 zc0 rfl (tyX7_ok 0 (by decide)) tyX7 tyX7_ok nmX7 d7_errorPosition_2 ?_
  refine g_ltM (fun m1 => ?_)
  refine g_aload_n hK 0 rfl rfl d7_errorPosition_5 ?_
  refine g_getI hK zfin_7 (fa_7_12 kc_292) q_1209 d7_errorPosition_6 (fun hf1 => ?_)
  exact g_iret hK hf1 rfl rfl d7_errorPosition_9
set_option maxRecDepth 20000 in
theorem p7_find_58 {K : zK} {Z : zZ} (hcx : zOk K Z b7_find RX7 3 (some .int) 1 34 0 0 ∧ ∀ x ∈ K.2.2.2.2.2.2.2.2.2.exceptionTable.toList, False) (x1 : Int) (μ : zM) (hx1 : zr x1) : zG K Z (zΩ Z) (zF K Z (zΩ Z) (ze2 mkI)) 0 0 58 [(0, .ref (Z.2.2.1 + 292)), (1, .int (zi x1))] [] μ (f7_find_58 x1 μ) := by
  obtain ⟨hK, hex⟩ := id hcx
  unfold f7_find_58
  refine g_aload_n hK 0 rfl rfl d7_find_58 ?_
  refine g_iconst hK d7_find_59 zki0 ?_
  refine g_putI hK zfin_7 (fa_7_10 kc_292) q_1207 zc0 rfl (tyX7_ok 10 (by decide)) tyX7 tyX7_ok nmX7 d7_find_60 ?_
  refine g_ltM (fun m2 => ?_)
  refine g_iload_n hK 1 rfl rfl d7_find_63 ?_
  exact g_iret hK hx1 rfl rfl d7_find_64
set_option maxRecDepth 20000 in
theorem p7_find_9 {K : zK} {Z : zZ} (hcx : zOk K Z b7_find RX7 3 (some .int) 1 34 0 0 ∧ ∀ x ∈ K.2.2.2.2.2.2.2.2.2.exceptionTable.toList, False) (k9 : Int → Int → zM → Option (Int × zM)) (hk9 : ∀ (x1 : Int) (x2 : Int) (μ : zM) (hx1 : zr x1) (hx2 : zr x2), zG K Z (zΩ Z) (zF K Z (zΩ Z) (ze2 mkI)) 0 0 9 [(0, .ref (Z.2.2.1 + 292)), (1, .int (zi x1)), (2, .int (zi x2))] [] μ (k9 x1 x2 μ)) (x1 : Int) (x2 : Int) (μ : zM) (hx1 : zr x1) (hx2 : zr x2) : zG K Z (zΩ Z) (zF K Z (zΩ Z) (ze2 mkI)) 0 0 9 [(0, .ref (Z.2.2.1 + 292)), (1, .int (zi x1)), (2, .int (zi x2))] [] μ (f7_find_9 k9 x1 x2 μ) := by
  obtain ⟨hK, hex⟩ := id hcx
  unfold f7_find_9
  refine g_iload_n hK 2 rfl rfl d7_find_9 ?_
  refine g_aload_n hK 0 rfl rfl d7_find_10 ?_
  refine g_getM hK zfin_7 (fa_7_8 kc_292) q_1205 (w := 6) (by decide) d7_find_11 (fun hm1 => ?_)
  refine g_getIN hK zfin_6 (fa_6_0 hm1) qn_1138 d7_find_14 (fun hf1 => ?_)
  refine g_icmp_ge hK hx2 hf1 (tgt := 58) (by decide) d7_find_17 (fun _ => ?_) (fun _ => ?_)
  · refine g_lv (lv2 := [(0, .ref (Z.2.2.1 + 292)), (1, .int (zi x1))]) [0, 1] rfl ?_
    exact p7_find_58 hcx  x1 μ hx1
  · refine g_aload_n hK 0 rfl rfl d7_find_20 ?_
    refine g_getI hK zfin_7 (fa_7_10 kc_292) q_1207 d7_find_21 (fun hf2 => ?_)
    refine g_bipush hK d7_find_24 zkb8 ?_
    refine g_icmp_gt hK hf2 zc8 (tgt := 58) (by decide) d7_find_26 (fun _ => ?_) (fun _ => ?_)
    · refine g_lv (lv2 := [(0, .ref (Z.2.2.1 + 292)), (1, .int (zi x1))]) [0, 1] rfl ?_
      exact p7_find_58 hcx  x1 μ hx1
    · refine g_aload_n hK 0 rfl rfl d7_find_29 ?_
      refine g_aload_n hK 0 rfl rfl d7_find_30 ?_
      refine g_getM hK zfin_7 (fa_7_8 kc_292) q_1205 (w := 6) (by decide) d7_find_31 (fun hm2 => ?_)
      refine g_iload_n hK 2 rfl rfl d7_find_34 ?_
      refine g_iconst hK d7_find_35 zki0 ?_
      refine g_aload_n hK 0 rfl rfl d7_find_36 ?_
      refine g_getI hK zfin_7 (fa_7_10 kc_292) q_1207 d7_find_37 (fun hf3 => ?_)
      refine g_callVco hK (mk := mkZ) (rm := rm7_isName) (cb := 0) (sb := 0) (As := [.ref (Z.2.2.1 + (zR μ 292 8)), .int (zi x2), .int (zi 0), .int (zi (zI μ 292 10))]) (b := 292) (n := 4) (c7_isName K.2.1 hK.2.2.2.2.2.2.2.2.1 Z (zR μ 292 8) x2 0 (zI μ 292 10) μ hm2 hx2 zc0 hf3) rfl (ci := 7) rfl (by decide) kc_292 q_1366 q_1368 qs_7_isName q_7 q_1369 rfl (by decide +kernel) (by decide) (Nat.le_of_ble_eq_true rfl) (Nat.le_of_ble_eq_true rfl) (Nat.le_of_ble_eq_true rfl) rfl d7_find_40 (fun r1 hr1 hpr1 => ?_)
      refine g_if_eq hK (zb_r r1) (tgt := 50) (by decide) d7_find_43 (fun _ => ?_) (fun _ => ?_)
      · refine g_iload_n hK 1 rfl rfl d7_find_50 ?_
        refine g_istore_n hK (lv2 := [(0, .ref (Z.2.2.1 + 292)), (1, .int (zi x1)), (2, .int (zi x2))]) [1, 0, 2] rfl rfl (by decide) d7_find_51 ?_
        refine g_iinc hK (lv2 := fun v1 => [(0, .ref (Z.2.2.1 + 292)), (1, .int (zi x1)), (2, .int (zi v1))]) 2 rfl [1, 2, 0] (fun _ => rfl) (by decide) d7_find_52 (fun v1 hv1 => ?_)
        refine g_goto hK (tgt := 9) (by decide) d7_find_55 ?_
        exact hk9 x1 v1 μ hx1 hv1
      · refine g_iload_n hK 2 rfl rfl d7_find_46 ?_
        refine g_goto hK (tgt := 51) (by decide) d7_find_47 ?_
        refine g_istore_n hK (lv2 := [(0, .ref (Z.2.2.1 + 292)), (1, .int (zi x2)), (2, .int (zi x2))]) [1, 0, 2] rfl rfl (by decide) d7_find_51 ?_
        refine g_iinc hK (lv2 := fun v2 => [(0, .ref (Z.2.2.1 + 292)), (1, .int (zi x2)), (2, .int (zi v2))]) 2 rfl [1, 2, 0] (fun _ => rfl) (by decide) d7_find_52 (fun v2 hv2 => ?_)
        refine g_goto hK (tgt := 9) (by decide) d7_find_55 ?_
        exact hk9 x2 v2 μ hx2 hv2
set_option maxRecDepth 20000 in
theorem l7_find_9 {K : zK} {Z : zZ} (hcx : zOk K Z b7_find RX7 3 (some .int) 1 34 0 0 ∧ ∀ x ∈ K.2.2.2.2.2.2.2.2.2.exceptionTable.toList, False) : ∀ (i9 : Nat) (x1 : Int) (x2 : Int) (μ : zM) (hx1 : zr x1) (hx2 : zr x2), zG K Z (zΩ Z) (zF K Z (zΩ Z) (ze2 mkI)) 0 0 9 [(0, .ref (Z.2.2.1 + 292)), (1, .int (zi x1)), (2, .int (zi x2))] [] μ (zfx (f7_find_9) (fun _ _ _ => none) i9 x1 x2 μ) := by
  intro i9
  induction i9 with
  | zero => intro x1 x2 μ hx1 hx2; exact g_none
  | succ i9 ih => intro x1 x2 μ hx1 hx2; exact p7_find_9 hcx  (zfx (f7_find_9) (fun _ _ _ => none) i9) ih x1 x2 μ hx1 hx2
set_option maxRecDepth 20000 in
theorem c7_find (l : Launch) (hst : l.stackTraces = false) (Z : zZ) (μ : zM) : ∀ x, f7_find μ = some x → zCt l Z (zΩ Z) y7_find (zws (.code y7_find b7_find 3 (some .int))) rm7_find [.ref (Z.2.2.1 + 292)] μ (ze2 mkI x) := by
  intro x h
  refine zCt.of (enc := (ze2 mkI)) h (by decide) hst (Nat.le_of_ble_eq_true rfl) (fun K hK0 hex hl _ => ?_)
  subst hl
  have hcx : zOk K Z b7_find RX7 3 (some .int) 1 34 0 0 ∧ ∀ x ∈ K.2.2.2.2.2.2.2.2.2.exceptionTable.toList, False := ⟨hK0, hex⟩
  have hK := hcx.1
  show zG K Z (zΩ Z) (zF K Z (zΩ Z) (ze2 mkI)) 0 0 0 [(0, .ref (Z.2.2.1 + 292))] [] μ (f7_find μ)
  unfold f7_find
  refine g_aload_n hK 0 rfl rfl d7_find_0 ?_
  refine g_iconst hK d7_find_1 zki0 ?_
  refine g_putI hK zfin_7 (fa_7_0 kc_292) q_1197 zc0 rfl (tyX7_ok 0 (by decide)) tyX7 tyX7_ok nmX7 d7_find_2 ?_
  refine g_ltM (fun m1 => ?_)
  refine g_iconst hK d7_find_5 zkim1 ?_
  refine g_istore_n hK (lv2 := [(0, .ref (Z.2.2.1 + 292)), (1, .int (zi (-1)))]) [1, 0] rfl rfl (by decide) d7_find_6 ?_
  refine g_iconst hK d7_find_7 zki0 ?_
  refine g_istore_n hK (lv2 := [(0, .ref (Z.2.2.1 + 292)), (1, .int (zi (-1))), (2, .int (zi 0))]) [1, 2, 0] rfl rfl (by decide) d7_find_8 ?_
  exact l7_find_9 hcx  zFu (-1) 0 m1 zcm1 zc0
set_option maxRecDepth 20000 in
theorem c7_of (l : Launch) (hst : l.stackTraces = false) (Z : zZ) (a1 : Int) (μ : zM) (ha1 : zr a1) : ∀ x, f7_of a1 μ = some x → zCt l Z (zΩ Z) y7_of (zws (.code y7_of b7_of 2 (some .int))) rm7_of [.ref (Z.2.2.1 + 292), .int (zi a1)] μ (zeP mkI μ x) := by
  intro x h
  refine zCt.of (enc := (zeP mkI μ)) h (by decide) hst (Nat.le_of_ble_eq_true rfl) (fun K hK0 hex hl _ => ?_)
  subst hl
  have hcx : zOk K Z b7_of RX7 2 (some .int) 0 8 0 0 ∧ ∀ x ∈ K.2.2.2.2.2.2.2.2.2.exceptionTable.toList, False := ⟨hK0, hex⟩
  have hK := hcx.1
  show zG K Z (zΩ Z) (zF K Z (zΩ Z) (zeP mkI μ)) 0 0 0 [(0, .ref (Z.2.2.1 + 292)), (1, .int (zi a1))] [] μ (f7_of a1 μ)
  unfold f7_of
  refine g_bipush hK d7_of_0 zkb60 ?_
  refine g_aload_n hK 0 rfl rfl d7_of_2 ?_
  refine g_getI hK zfin_7 (fa_7_21 kc_292) q_1218 d7_of_3 (fun hf1 => ?_)
  refine g_imul hK d7_of_6 (fun v1 hv1 => ?_)
  refine g_iload_n hK 1 rfl rfl d7_of_7 ?_
  refine g_iadd hK d7_of_8 (fun v2 hv2 => ?_)
  exact g_iret hK hv2 rfl rfl d7_of_9
set_option maxRecDepth 20000 in
theorem c7_many (l : Launch) (hst : l.stackTraces = false) (Z : zZ) (μ : zM) : ∀ x, f7_many μ = some x → zCt l Z (zΩ Z) y7_many (zws (.code y7_many b7_many 1 (some .int))) rm7_many [.ref (Z.2.2.1 + 292)] μ (zeP mkI μ x) := by
  intro x h
  refine zCt.of (enc := (zeP mkI μ)) h (by decide) hst (Nat.le_of_ble_eq_true rfl) (fun K hK0 hex hl _ => ?_)
  subst hl
  have hcx : zOk K Z b7_many RX7 1 (some .int) 0 8 0 0 ∧ ∀ x ∈ K.2.2.2.2.2.2.2.2.2.exceptionTable.toList, False := ⟨hK0, hex⟩
  have hK := hcx.1
  show zG K Z (zΩ Z) (zF K Z (zΩ Z) (zeP mkI μ)) 0 0 0 [(0, .ref (Z.2.2.1 + 292))] [] μ (f7_many μ)
  unfold f7_many
  refine g_aload_n hK 0 rfl rfl d7_many_0 ?_
  refine g_getM hK zfin_7 (fa_7_8 kc_292) q_1205 (w := 6) (by decide) d7_many_1 (fun hm1 => ?_)
  refine g_getRN hK zfin_6 (fa_6_6 hm1) qn_1149 (pt_6_occurrences hm1) d7_many_4 ?_
  refine g_aload_n hK 0 rfl rfl d7_many_7 ?_
  refine g_getI hK zfin_7 (fa_7_21 kc_292) q_1218 d7_many_8 (fun hf1 => ?_)
  refine g_iald hK (pt_6_occurrences_k hm1) d7_many_11 (fun _ hl1 => ?_)
  exact g_iret hK hl1 rfl rfl d7_many_12
set_option maxRecDepth 20000 in
theorem c7_isTyped (l : Launch) (hst : l.stackTraces = false) (Z : zZ) (a1 : Int) (μ : zM) (ha1 : zr a1) : ∀ x, f7_isTyped a1 μ = some x → zCt l Z (zΩ Z) y7_isTyped (zws (.code y7_isTyped b7_isTyped 2 (some .boolean))) rm7_isTyped [.ref (Z.2.2.1 + 292), .int (zi a1)] μ (zeP mkZ μ x) := by
  intro x h
  refine zCt.of (enc := (zeP mkZ μ)) h (by decide) hst (Nat.le_of_ble_eq_true rfl) (fun K hK0 hex hl _ => ?_)
  subst hl
  have hcx : zOk K Z b7_isTyped RX7 2 (some .boolean) 1 29 0 0 ∧ ∀ x ∈ K.2.2.2.2.2.2.2.2.2.exceptionTable.toList, False := ⟨hK0, hex⟩
  have hK := hcx.1
  show zG K Z (zΩ Z) (zF K Z (zΩ Z) (zeP mkZ μ)) 0 0 0 [(0, .ref (Z.2.2.1 + 292)), (1, .int (zi a1))] [] μ (f7_isTyped a1 μ)
  unfold f7_isTyped
  refine g_aload_n hK 0 rfl rfl d7_isTyped_0 ?_
  refine g_getI hK zfin_7 (fa_7_22 kc_292) q_1219 d7_isTyped_1 (fun hf1 => ?_)
  refine g_iconst hK d7_isTyped_4 zkim1 ?_
  refine g_icmp_eq hK hf1 zcm1 (tgt := 30) (by decide) d7_isTyped_5 (fun _ => ?_) (fun _ => ?_)
  · refine g_iconst hK d7_isTyped_30 zki0 ?_
    exact g_zret hK (by decide) rfl rfl d7_isTyped_31
  · refine g_aload_n hK 0 rfl rfl d7_isTyped_8 ?_
    refine g_getR hK zfin_7 (fa_7_1 kc_292) q_1198 (r := 293) (by decide +kernel) d7_isTyped_9 ?_
    refine g_aload_n hK 0 rfl rfl d7_isTyped_12 ?_
    refine g_getI hK zfin_7 (fa_7_22 kc_292) q_1219 d7_isTyped_13 (fun hf2 => ?_)
    refine g_iconst hK d7_isTyped_16 zki2 ?_
    refine g_iadd hK d7_isTyped_17 (fun v1 hv1 => ?_)
    refine g_iald hK kc_293 d7_isTyped_18 (fun _ hl1 => ?_)
    refine g_iload_n hK 1 rfl rfl d7_isTyped_19 ?_
    refine g_callSco hK (mk := mkZ) (rm := rm7_has) (cb := 0) (sb := 0) (As := [.int (zi (zI μ 293 (zx v1))), .int (zi a1)]) (n := 2) (c7_has K.2.1 hK.2.2.2.2.2.2.2.2.1 Z (zI μ 293 (zx v1)) a1 μ hl1 ha1) q_1390 q_1391 q_7 q_1392 rfl (by decide +kernel) (by decide) (Nat.le_of_ble_eq_true rfl) (Nat.le_of_ble_eq_true rfl) (Nat.le_of_ble_eq_true rfl) rfl d7_isTyped_20 (fun r1 hr1 hpr1 => ?_)
    refine g_if_eq hK (zb_r r1) (tgt := 30) (by decide) d7_isTyped_23 (fun _ => ?_) (fun _ => ?_)
    · refine g_iconst hK d7_isTyped_30 zki0 ?_
      exact g_zret hK (by decide) rfl rfl d7_isTyped_31
    · refine g_iconst hK d7_isTyped_26 zki1 ?_
      refine g_goto hK (tgt := 31) (by decide) d7_isTyped_27 ?_
      exact g_zret hK (by decide) rfl rfl d7_isTyped_31
set_option maxRecDepth 20000 in
theorem p7_shows_203 {K : zK} {Z : zZ} (hcx : zOk K Z b7_shows RX7 4 (none) 2 50 0 0 ∧ ∀ x ∈ K.2.2.2.2.2.2.2.2.2.exceptionTable.toList, False) (k42 : Int → zM → Option zM) (hk42 : ∀ (x1 : Int) (μ : zM) (hx1 : zr x1), zG K Z (zΩ Z) (zF K Z (zΩ Z) zeM) 0 0 42 [(0, .ref (Z.2.2.1 + 292)), (1, .int (zi x1))] [] μ (k42 x1 μ)) (x1 : Int) (s0 : Int) (s1 : Int) (μ : zM) (hx1 : zr x1) (hs0 : zr s0) (hs1 : zr s1) : zG K Z (zΩ Z) (zF K Z (zΩ Z) zeM) 0 0 203 [(0, .ref (Z.2.2.1 + 292)), (1, .int (zi x1))] [.int (zi s0), .int (zi s1), .ref (Z.2.2.1 + 292)] μ (f7_shows_203 k42 x1 s0 s1 μ) := by
  obtain ⟨hK, hex⟩ := id hcx
  unfold f7_shows_203
  refine g_ior hK d7_shows_203 (fun v4 hv4 => ?_)
  refine g_putI hK zfin_7 (fa_7_27 kc_292) q_1224 hv4 rfl (tyX7_ok 27 (by decide)) tyX7 tyX7_ok nmX7 d7_shows_204 ?_
  refine g_ltM (fun m8 => ?_)
  refine g_iinc hK (lv2 := fun v5 => [(0, .ref (Z.2.2.1 + 292)), (1, .int (zi v5))]) 1 rfl [1, 0] (fun _ => rfl) (by decide) d7_shows_207 (fun v5 hv5 => ?_)
  refine g_goto hK (tgt := 42) (by decide) d7_shows_210 ?_
  exact hk42 v5 m8 hv5
set_option maxRecDepth 20000 in
theorem p7_shows_181 {K : zK} {Z : zZ} (hcx : zOk K Z b7_shows RX7 4 (none) 2 50 0 0 ∧ ∀ x ∈ K.2.2.2.2.2.2.2.2.2.exceptionTable.toList, False) (k42 : Int → zM → Option zM) (hk42 : ∀ (x1 : Int) (μ : zM) (hx1 : zr x1), zG K Z (zΩ Z) (zF K Z (zΩ Z) zeM) 0 0 42 [(0, .ref (Z.2.2.1 + 292)), (1, .int (zi x1))] [] μ (k42 x1 μ)) (x1 : Int) (x3 : Int) (s0 : Int) (s1 : Int) (μ : zM) (hx1 : zr x1) (hx3 : zr x3) (hs0 : zr s0) (hs1 : zr s1) : zG K Z (zΩ Z) (zF K Z (zΩ Z) zeM) 0 0 181 [(0, .ref (Z.2.2.1 + 292)), (1, .int (zi x1)), (3, .int (zi x3))] [.int (zi s0), .int (zi s1), .ref (Z.2.2.1 + 331)] μ (f7_shows_181 k42 x1 x3 s0 s1 μ) := by
  obtain ⟨hK, hex⟩ := id hcx
  unfold f7_shows_181
  refine g_iast hK hs0 kc_331 d7_shows_181 (fun _ => ?_)
  refine g_ltM (fun m7 => ?_)
  refine g_aload_n hK 0 rfl rfl d7_shows_182 ?_
  refine g_dup hK d7_shows_183 rfl ?_
  refine g_getI hK zfin_7 (fa_7_27 kc_292) q_1224 d7_shows_184 (fun hf1 => ?_)
  refine g_aload_n hK 0 rfl rfl d7_shows_187 ?_
  refine g_getR hK zfin_7 (fa_7_23 kc_292) q_1220 (r := 329) (by decide +kernel) d7_shows_188 ?_
  refine g_iload_n hK 1 rfl rfl d7_shows_191 ?_
  refine g_zald hK kc_329 d7_shows_192 (fun _ hl10 => ?_)
  refine g_if_eq hK hl10 (tgt := 202) (by decide) d7_shows_193 (fun _ => ?_) (fun _ => ?_)
  · refine g_iconst hK d7_shows_202 zki0 ?_
    refine g_lv (lv2 := [(0, .ref (Z.2.2.1 + 292)), (1, .int (zi x1))]) [0, 1] rfl ?_
    exact p7_shows_203 hcx k42 hk42 x1 0 (zI m7 292 27) m7 hx1 zc0 hf1
  · refine g_iconst hK d7_shows_196 zki1 ?_
    refine g_iload_n hK 2 rfl rfl d7_shows_197 ?_
    refine g_ishl hK d7_shows_198 (fun v3 hv3 => ?_)
    refine g_goto hK (tgt := 203) (by decide) d7_shows_199 ?_
    refine g_lv (lv2 := [(0, .ref (Z.2.2.1 + 292)), (1, .int (zi x1))]) [0, 1] rfl ?_
    exact p7_shows_203 hcx k42 hk42 x1 v3 (zI m7 292 27) m7 hx1 hv3 hf1
set_option maxRecDepth 20000 in
theorem p7_shows_156 {K : zK} {Z : zZ} (hcx : zOk K Z b7_shows RX7 4 (none) 2 50 0 0 ∧ ∀ x ∈ K.2.2.2.2.2.2.2.2.2.exceptionTable.toList, False) (k42 : Int → zM → Option zM) (hk42 : ∀ (x1 : Int) (μ : zM) (hx1 : zr x1), zG K Z (zΩ Z) (zF K Z (zΩ Z) zeM) 0 0 42 [(0, .ref (Z.2.2.1 + 292)), (1, .int (zi x1))] [] μ (k42 x1 μ)) (x1 : Int) (x3 : Int) (s0 : Int) (s1 : Int) (μ : zM) (hx1 : zr x1) (hx3 : zr x3) (hs0 : zr s0) (hs1 : zr s1) : zG K Z (zΩ Z) (zF K Z (zΩ Z) zeM) 0 0 156 [(0, .ref (Z.2.2.1 + 292)), (1, .int (zi x1)), (3, .int (zi x3))] [.int (zi s0), .int (zi s1), .ref (Z.2.2.1 + 330)] μ (f7_shows_156 k42 x1 x3 s0 s1 μ) := by
  obtain ⟨hK, hex⟩ := id hcx
  unfold f7_shows_156
  refine g_zast hK kc_330 d7_shows_156 (fun _ => ?_)
  refine g_ltM (fun m6 => ?_)
  refine g_aload_n hK 0 rfl rfl d7_shows_157 ?_
  refine g_getR hK zfin_7 (fa_7_25 kc_292) q_1222 (r := 331) (by decide +kernel) d7_shows_158 ?_
  refine g_iload_n hK 2 rfl rfl d7_shows_161 ?_
  refine g_aload_n hK 0 rfl rfl d7_shows_162 ?_
  refine g_getR hK zfin_7 (fa_7_24 kc_292) q_1221 (r := 330) (by decide +kernel) d7_shows_163 ?_
  refine g_iload_n hK 1 rfl rfl d7_shows_166 ?_
  refine g_zald hK kc_330 d7_shows_167 (fun _ hl8 => ?_)
  refine g_if_eq hK hl8 (tgt := 175) (by decide) d7_shows_168 (fun _ => ?_) (fun _ => ?_)
  · refine g_aload_n hK 0 rfl rfl d7_shows_175 ?_
    refine g_getR hK zfin_7 (fa_7_25 kc_292) q_1222 (r := 331) (by decide +kernel) d7_shows_176 ?_
    refine g_iload_n hK 2 rfl rfl d7_shows_179 ?_
    refine g_iald hK kc_331 d7_shows_180 (fun _ hl9 => ?_)
    exact p7_shows_181 hcx k42 hk42 x1 x3 (zI m6 331 (zx x3)) x3 m6 hx1 hx3 hl9 hx3
  · refine g_iload_n hK 1 rfl rfl d7_shows_171 ?_
    refine g_goto hK (tgt := 181) (by decide) d7_shows_172 ?_
    exact p7_shows_181 hcx k42 hk42 x1 x3 x1 x3 m6 hx1 hx3 hx1 hx3
set_option maxRecDepth 20000 in
theorem p7_shows_155 {K : zK} {Z : zZ} (hcx : zOk K Z b7_shows RX7 4 (none) 2 50 0 0 ∧ ∀ x ∈ K.2.2.2.2.2.2.2.2.2.exceptionTable.toList, False) (k42 : Int → zM → Option zM) (hk42 : ∀ (x1 : Int) (μ : zM) (hx1 : zr x1), zG K Z (zΩ Z) (zF K Z (zΩ Z) zeM) 0 0 42 [(0, .ref (Z.2.2.1 + 292)), (1, .int (zi x1))] [] μ (k42 x1 μ)) (x1 : Int) (x3 : Int) (s0 : Int) (μ : zM) (hx1 : zr x1) (hx3 : zr x3) (hs0 : zr s0) : zG K Z (zΩ Z) (zF K Z (zΩ Z) zeM) 0 0 155 [(0, .ref (Z.2.2.1 + 292)), (1, .int (zi x1)), (3, .int (zi x3))] [.int (zi s0), .ref (Z.2.2.1 + 330)] μ (f7_shows_155 k42 x1 x3 s0 μ) := by
  obtain ⟨hK, hex⟩ := id hcx
  unfold f7_shows_155
  refine g_iconst hK d7_shows_155 zki0 ?_
  exact p7_shows_156 hcx k42 hk42 x1 x3 0 s0 μ hx1 hx3 zc0 hs0
set_option maxRecDepth 20000 in
theorem p7_shows_106 {K : zK} {Z : zZ} (hcx : zOk K Z b7_shows RX7 4 (none) 2 50 0 0 ∧ ∀ x ∈ K.2.2.2.2.2.2.2.2.2.exceptionTable.toList, False) (k42 : Int → zM → Option zM) (hk42 : ∀ (x1 : Int) (μ : zM) (hx1 : zr x1), zG K Z (zΩ Z) (zF K Z (zΩ Z) zeM) 0 0 42 [(0, .ref (Z.2.2.1 + 292)), (1, .int (zi x1))] [] μ (k42 x1 μ)) (x1 : Int) (x2 : Int) (x3 : Int) (s0 : Int) (s1 : Int) (μ : zM) (hx1 : zr x1) (hx2 : zr x2) (hx3 : zr x3) (hs0 : zr s0) (hs1 : zr s1) : zG K Z (zΩ Z) (zF K Z (zΩ Z) zeM) 0 0 106 [(0, .ref (Z.2.2.1 + 292)), (1, .int (zi x1)), (2, .int (zi x2)), (3, .int (zi x3))] [.int (zi s0), .int (zi s1), .ref (Z.2.2.1 + 329)] μ (f7_shows_106 k42 x1 x2 x3 s0 s1 μ) := by
  obtain ⟨hK, hex⟩ := id hcx
  unfold f7_shows_106
  refine g_zast hK kc_329 d7_shows_106 (fun _ => ?_)
  refine g_ltM (fun m5 => ?_)
  refine g_aload_n hK 0 rfl rfl d7_shows_107 ?_
  refine g_getR hK zfin_7 (fa_7_24 kc_292) q_1221 (r := 330) (by decide +kernel) d7_shows_108 ?_
  refine g_iload_n hK 1 rfl rfl d7_shows_111 ?_
  refine g_aload_n hK 0 rfl rfl d7_shows_112 ?_
  refine g_getM hK zfin_7 (fa_7_8 kc_292) q_1205 (w := 6) (by decide) d7_shows_113 (fun hm4 => ?_)
  refine g_getRN hK zfin_6 (fa_6_9 hm4) qn_1155 (pt_6_hasDefault hm4) d7_shows_116 ?_
  refine g_iload_n hK 2 rfl rfl d7_shows_119 ?_
  refine g_zald hK (pt_6_hasDefault_k hm4) d7_shows_120 (fun _ hl5 => ?_)
  refine g_if_eq hK hl5 (tgt := 155) (by decide) d7_shows_121 (fun _ => ?_) (fun _ => ?_)
  · refine g_lv (lv2 := [(0, .ref (Z.2.2.1 + 292)), (1, .int (zi x1)), (3, .int (zi x3))]) [0, 1, 3] rfl ?_
    exact p7_shows_155 hcx k42 hk42 x1 x3 x1 m5 hx1 hx3 hx1
  · refine g_aload_n hK 0 rfl rfl d7_shows_124 ?_
    refine g_getR hK zfin_7 (fa_7_23 kc_292) q_1220 (r := 329) (by decide +kernel) d7_shows_125 ?_
    refine g_iload_n hK 1 rfl rfl d7_shows_128 ?_
    refine g_zald hK kc_329 d7_shows_129 (fun _ hl6 => ?_)
    refine g_if_eq hK hl6 (tgt := 155) (by decide) d7_shows_130 (fun _ => ?_) (fun _ => ?_)
    · refine g_lv (lv2 := [(0, .ref (Z.2.2.1 + 292)), (1, .int (zi x1)), (3, .int (zi x3))]) [0, 1, 3] rfl ?_
      exact p7_shows_155 hcx k42 hk42 x1 x3 x1 m5 hx1 hx3 hx1
    · refine g_aload_n hK 0 rfl rfl d7_shows_133 ?_
      refine g_iload_n hK 3 rfl rfl d7_shows_134 ?_
      refine g_callVco hK (mk := mkZ) (rm := rm7_isTyped) (cb := 0) (sb := 0) (As := [.int (zi x3)]) (b := 292) (n := 1) (c7_isTyped K.2.1 hK.2.2.2.2.2.2.2.2.1 Z x3 m5 hx3) rfl (ci := 7) rfl (by decide) kc_292 q_1483 q_1485 qs_7_isTyped q_7 q_1486 rfl (by decide +kernel) (by decide) (Nat.le_of_ble_eq_true rfl) (Nat.le_of_ble_eq_true rfl) (Nat.le_of_ble_eq_true rfl) rfl d7_shows_135 (fun r3 hr3 hpr3 => ?_)
      refine g_if_ne hK (zb_r r3) (tgt := 155) (by decide) d7_shows_138 (fun _ => ?_) (fun _ => ?_)
      · refine g_lv (lv2 := [(0, .ref (Z.2.2.1 + 292)), (1, .int (zi x1)), (3, .int (zi x3))]) [0, 1, 3] rfl ?_
        exact p7_shows_155 hcx k42 hk42 x1 x3 x1 m5 hx1 hx3 hx1
      · refine g_aload_n hK 0 rfl rfl d7_shows_141 ?_
        refine g_getR hK zfin_7 (fa_7_25 kc_292) q_1222 (r := 331) (by decide +kernel) d7_shows_142 ?_
        refine g_iload_n hK 3 rfl rfl d7_shows_145 ?_
        refine g_iald hK kc_331 d7_shows_146 (fun _ hl7 => ?_)
        refine g_iconst hK d7_shows_147 zkim1 ?_
        refine g_icmp_ne hK hl7 zcm1 (tgt := 155) (by decide) d7_shows_148 (fun _ => ?_) (fun _ => ?_)
        · refine g_lv (lv2 := [(0, .ref (Z.2.2.1 + 292)), (1, .int (zi x1)), (3, .int (zi x3))]) [0, 1, 3] rfl ?_
          exact p7_shows_155 hcx k42 hk42 x1 x3 x1 m5 hx1 hx3 hx1
        · refine g_iconst hK d7_shows_151 zki1 ?_
          refine g_goto hK (tgt := 156) (by decide) d7_shows_152 ?_
          refine g_lv (lv2 := [(0, .ref (Z.2.2.1 + 292)), (1, .int (zi x1)), (3, .int (zi x3))]) [0, 1, 3] rfl ?_
          exact p7_shows_156 hcx k42 hk42 x1 x3 1 x1 m5 hx1 hx3 zc1 hx1
set_option maxRecDepth 20000 in
theorem p7_shows_42 {K : zK} {Z : zZ} (hcx : zOk K Z b7_shows RX7 4 (none) 2 50 0 0 ∧ ∀ x ∈ K.2.2.2.2.2.2.2.2.2.exceptionTable.toList, False) (k42 : Int → zM → Option zM) (hk42 : ∀ (x1 : Int) (μ : zM) (hx1 : zr x1), zG K Z (zΩ Z) (zF K Z (zΩ Z) zeM) 0 0 42 [(0, .ref (Z.2.2.1 + 292)), (1, .int (zi x1))] [] μ (k42 x1 μ)) (x1 : Int) (μ : zM) (hx1 : zr x1) : zG K Z (zΩ Z) (zF K Z (zΩ Z) zeM) 0 0 42 [(0, .ref (Z.2.2.1 + 292)), (1, .int (zi x1))] [] μ (f7_shows_42 k42 x1 μ) := by
  obtain ⟨hK, hex⟩ := id hcx
  unfold f7_shows_42
  refine g_iload_n hK 1 rfl rfl d7_shows_42 ?_
  refine g_aload_n hK 0 rfl rfl d7_shows_43 ?_
  refine g_callVco hK (mk := mkI) (rm := rm7_many) (cb := 0) (sb := 0) (As := []) (b := 292) (n := 0) (c7_many K.2.1 hK.2.2.2.2.2.2.2.2.1 Z  μ ) rfl (ci := 7) rfl (by decide) kc_292 q_1475 q_1477 qs_7_many q_7 q_1478 rfl (by decide +kernel) (by decide) (Nat.le_of_ble_eq_true rfl) (Nat.le_of_ble_eq_true rfl) (Nat.le_of_ble_eq_true rfl) rfl d7_shows_44 (fun r1 hr1 hpr1 => ?_)
  refine g_icmp_ge hK hx1 hpr1 (tgt := 213) (by decide) d7_shows_47 (fun _ => ?_) (fun _ => ?_)
  · exact g_vret hK rfl rfl d7_shows_213
  · refine g_aload_n hK 0 rfl rfl d7_shows_50 ?_
    refine g_iload_n hK 1 rfl rfl d7_shows_51 ?_
    refine g_callVco hK (mk := mkI) (rm := rm7_of) (cb := 0) (sb := 0) (As := [.int (zi x1)]) (b := 292) (n := 1) (c7_of K.2.1 hK.2.2.2.2.2.2.2.2.1 Z x1 μ hx1) rfl (ci := 7) rfl (by decide) kc_292 q_1479 q_1481 qs_7_of q_7 q_1482 rfl (by decide +kernel) (by decide) (Nat.le_of_ble_eq_true rfl) (Nat.le_of_ble_eq_true rfl) (Nat.le_of_ble_eq_true rfl) rfl d7_shows_52 (fun r2 hr2 hpr2 => ?_)
    refine g_istore_n hK (lv2 := [(0, .ref (Z.2.2.1 + 292)), (1, .int (zi x1)), (2, .int (zi r2))]) [1, 2, 0] rfl rfl (by decide) d7_shows_55 ?_
    refine g_aload_n hK 0 rfl rfl d7_shows_56 ?_
    refine g_getM hK zfin_7 (fa_7_8 kc_292) q_1205 (w := 6) (by decide) d7_shows_57 (fun hm1 => ?_)
    refine g_getRN hK zfin_6 (fa_6_7 hm1) qn_1151 (pt_6_field hm1) d7_shows_60 ?_
    refine g_iload_n hK 2 rfl rfl d7_shows_63 ?_
    refine g_iald hK (pt_6_field_k hm1) d7_shows_64 (fun _ hl1 => ?_)
    refine g_ltI hl1 (fun v2 hv2 => ?_)
    refine g_istore_n hK (lv2 := [(0, .ref (Z.2.2.1 + 292)), (1, .int (zi x1)), (2, .int (zi r2)), (3, .int (zi v2))]) [1, 2, 3, 0] rfl rfl (by decide) d7_shows_65 ?_
    refine g_aload_n hK 0 rfl rfl d7_shows_66 ?_
    refine g_getR hK zfin_7 (fa_7_23 kc_292) q_1220 (r := 329) (by decide +kernel) d7_shows_67 ?_
    refine g_iload_n hK 1 rfl rfl d7_shows_70 ?_
    refine g_aload_n hK 0 rfl rfl d7_shows_71 ?_
    refine g_getM hK zfin_7 (fa_7_8 kc_292) q_1205 (w := 6) (by decide) d7_shows_72 (fun hm2 => ?_)
    refine g_getRN hK zfin_6 (fa_6_10 hm2) qn_1157 (pt_6_parent hm2) d7_shows_75 ?_
    refine g_iload_n hK 2 rfl rfl d7_shows_78 ?_
    refine g_iald hK (pt_6_parent_k hm2) d7_shows_79 (fun _ hl2 => ?_)
    refine g_iconst hK d7_shows_80 zkim1 ?_
    refine g_icmp_eq hK hl2 zcm1 (tgt := 101) (by decide) d7_shows_81 (fun _ => ?_) (fun _ => ?_)
    · refine g_iconst hK d7_shows_101 zki1 ?_
      refine g_goto hK (tgt := 106) (by decide) d7_shows_102 ?_
      exact p7_shows_106 hcx k42 hk42 x1 r2 v2 1 x1 μ hx1 hpr2 hv2 zc1 hx1
    · refine g_aload_n hK 0 rfl rfl d7_shows_84 ?_
      refine g_getR hK zfin_7 (fa_7_24 kc_292) q_1221 (r := 330) (by decide +kernel) d7_shows_85 ?_
      refine g_aload_n hK 0 rfl rfl d7_shows_88 ?_
      refine g_getM hK zfin_7 (fa_7_8 kc_292) q_1205 (w := 6) (by decide) d7_shows_89 (fun hm3 => ?_)
      refine g_getRN hK zfin_6 (fa_6_10 hm3) qn_1157 (pt_6_parent hm3) d7_shows_92 ?_
      refine g_iload_n hK 2 rfl rfl d7_shows_95 ?_
      refine g_iald hK (pt_6_parent_k hm3) d7_shows_96 (fun _ hl3 => ?_)
      refine g_zald hK kc_330 d7_shows_97 (fun _ hl4 => ?_)
      refine g_if_eq hK hl4 (tgt := 105) (by decide) d7_shows_98 (fun _ => ?_) (fun _ => ?_)
      · refine g_iconst hK d7_shows_105 zki0 ?_
        exact p7_shows_106 hcx k42 hk42 x1 r2 v2 0 x1 μ hx1 hpr2 hv2 zc0 hx1
      · refine g_iconst hK d7_shows_101 zki1 ?_
        refine g_goto hK (tgt := 106) (by decide) d7_shows_102 ?_
        exact p7_shows_106 hcx k42 hk42 x1 r2 v2 1 x1 μ hx1 hpr2 hv2 zc1 hx1
set_option maxRecDepth 20000 in
theorem l7_shows_42 {K : zK} {Z : zZ} (hcx : zOk K Z b7_shows RX7 4 (none) 2 50 0 0 ∧ ∀ x ∈ K.2.2.2.2.2.2.2.2.2.exceptionTable.toList, False) : ∀ (i9 : Nat) (x1 : Int) (μ : zM) (hx1 : zr x1), zG K Z (zΩ Z) (zF K Z (zΩ Z) zeM) 0 0 42 [(0, .ref (Z.2.2.1 + 292)), (1, .int (zi x1))] [] μ (zfx (f7_shows_42) (fun _ _ => none) i9 x1 μ) := by
  intro i9
  induction i9 with
  | zero => intro x1 μ hx1; exact g_none
  | succ i9 ih => intro x1 μ hx1; exact p7_shows_42 hcx  (zfx (f7_shows_42) (fun _ _ => none) i9) ih x1 μ hx1
set_option maxRecDepth 20000 in
theorem p7_shows_2 {K : zK} {Z : zZ} (hcx : zOk K Z b7_shows RX7 4 (none) 2 50 0 0 ∧ ∀ x ∈ K.2.2.2.2.2.2.2.2.2.exceptionTable.toList, False) (k2 : Int → zM → Option zM) (hk2 : ∀ (x1 : Int) (μ : zM) (hx1 : zr x1), zG K Z (zΩ Z) (zF K Z (zΩ Z) zeM) 0 0 2 [(0, .ref (Z.2.2.1 + 292)), (1, .int (zi x1))] [] μ (k2 x1 μ)) (x1 : Int) (μ : zM) (hx1 : zr x1) : zG K Z (zΩ Z) (zF K Z (zΩ Z) zeM) 0 0 2 [(0, .ref (Z.2.2.1 + 292)), (1, .int (zi x1))] [] μ (f7_shows_2 k2 x1 μ) := by
  obtain ⟨hK, hex⟩ := id hcx
  unfold f7_shows_2
  refine g_iload_n hK 1 rfl rfl d7_shows_2 ?_
  refine g_bipush hK d7_shows_3 zkb10 ?_
  refine g_icmp_ge hK hx1 zc10 (tgt := 35) (by decide) d7_shows_5 (fun _ => ?_) (fun _ => ?_)
  · refine g_aload_n hK 0 rfl rfl d7_shows_35 ?_
    refine g_iconst hK d7_shows_36 zki0 ?_
    refine g_putI hK zfin_7 (fa_7_27 kc_292) q_1224 zc0 rfl (tyX7_ok 27 (by decide)) tyX7 tyX7_ok nmX7 d7_shows_37 ?_
    refine g_ltM (fun m1 => ?_)
    refine g_iconst hK d7_shows_40 zki0 ?_
    refine g_istore_n hK (lv2 := [(0, .ref (Z.2.2.1 + 292)), (1, .int (zi 0))]) [1, 0] rfl rfl (by decide) d7_shows_41 ?_
    exact l7_shows_42 hcx  zFu 0 m1 zc0
  · refine g_aload_n hK 0 rfl rfl d7_shows_8 ?_
    refine g_getR hK zfin_7 (fa_7_25 kc_292) q_1222 (r := 331) (by decide +kernel) d7_shows_9 ?_
    refine g_iload_n hK 1 rfl rfl d7_shows_12 ?_
    refine g_iconst hK d7_shows_13 zkim1 ?_
    refine g_iast hK zcm1 kc_331 d7_shows_14 (fun _ => ?_)
    refine g_ltM (fun m2 => ?_)
    refine g_aload_n hK 0 rfl rfl d7_shows_15 ?_
    refine g_getR hK zfin_7 (fa_7_26 kc_292) q_1223 (r := 332) (by decide +kernel) d7_shows_16 ?_
    refine g_iload_n hK 1 rfl rfl d7_shows_19 ?_
    refine g_iconst hK d7_shows_20 zkim1 ?_
    refine g_iast hK zcm1 kc_332 d7_shows_21 (fun _ => ?_)
    refine g_ltM (fun m3 => ?_)
    refine g_aload_n hK 0 rfl rfl d7_shows_22 ?_
    refine g_getR hK zfin_7 (fa_7_31 kc_292) q_1228 (r := 335) (by decide +kernel) d7_shows_23 ?_
    refine g_iload_n hK 1 rfl rfl d7_shows_26 ?_
    refine g_iconst hK d7_shows_27 zki0 ?_
    refine g_zast hK kc_335 d7_shows_28 (fun _ => ?_)
    refine g_ltM (fun m4 => ?_)
    refine g_iinc hK (lv2 := fun v1 => [(0, .ref (Z.2.2.1 + 292)), (1, .int (zi v1))]) 1 rfl [1, 0] (fun _ => rfl) (by decide) d7_shows_29 (fun v1 hv1 => ?_)
    refine g_goto hK (tgt := 2) (by decide) d7_shows_32 ?_
    exact hk2 v1 m4 hv1
set_option maxRecDepth 20000 in
theorem l7_shows_2 {K : zK} {Z : zZ} (hcx : zOk K Z b7_shows RX7 4 (none) 2 50 0 0 ∧ ∀ x ∈ K.2.2.2.2.2.2.2.2.2.exceptionTable.toList, False) : ∀ (i9 : Nat) (x1 : Int) (μ : zM) (hx1 : zr x1), zG K Z (zΩ Z) (zF K Z (zΩ Z) zeM) 0 0 2 [(0, .ref (Z.2.2.1 + 292)), (1, .int (zi x1))] [] μ (zfx (f7_shows_2) (fun _ _ => none) i9 x1 μ) := by
  intro i9
  induction i9 with
  | zero => intro x1 μ hx1; exact g_none
  | succ i9 ih => intro x1 μ hx1; exact p7_shows_2 hcx  (zfx (f7_shows_2) (fun _ _ => none) i9) ih x1 μ hx1
set_option maxRecDepth 20000 in
theorem c7_shows (l : Launch) (hst : l.stackTraces = false) (Z : zZ) (μ : zM) : ∀ x, f7_shows μ = some x → zCt l Z (zΩ Z) y7_shows (zws (.code y7_shows b7_shows 4 (none))) rm7_shows [.ref (Z.2.2.1 + 292)] μ (zeM x) := by
  intro x h
  refine zCt.of (enc := zeM) h (by decide) hst (Nat.le_of_ble_eq_true rfl) (fun K hK0 hex hl _ => ?_)
  subst hl
  have hcx : zOk K Z b7_shows RX7 4 (none) 2 50 0 0 ∧ ∀ x ∈ K.2.2.2.2.2.2.2.2.2.exceptionTable.toList, False := ⟨hK0, hex⟩
  have hK := hcx.1
  show zG K Z (zΩ Z) (zF K Z (zΩ Z) zeM) 0 0 0 [(0, .ref (Z.2.2.1 + 292))] [] μ (f7_shows μ)
  unfold f7_shows
  refine g_iconst hK d7_shows_0 zki0 ?_
  refine g_istore_n hK (lv2 := [(0, .ref (Z.2.2.1 + 292)), (1, .int (zi 0))]) [1, 0] rfl rfl (by decide) d7_shows_1 ?_
  exact l7_shows_2 hcx  zFu 0 μ zc0
set_option maxRecDepth 20000 in
theorem c7_lays (l : Launch) (hst : l.stackTraces = false) (Z : zZ) (a1 : Int) (μ : zM) (ha1 : zr a1) : ∀ x, f7_lays a1 μ = some x → zCt l Z (zΩ Z) y7_lays (zws (.code y7_lays b7_lays 2 (none))) rm7_lays [.ref (Z.2.2.1 + 292), .int (zi a1)] μ (zeM x) := by
  intro x h
  refine zCt.of (enc := zeM) h (by decide) hst (Nat.le_of_ble_eq_true rfl) (fun K hK0 hex hl _ => ?_)
  subst hl
  have hcx : zOk K Z b7_lays RX7 2 (none) 3 73 0 0 ∧ ∀ x ∈ K.2.2.2.2.2.2.2.2.2.exceptionTable.toList, False := ⟨hK0, hex⟩
  have hK := hcx.1
  show zG K Z (zΩ Z) (zF K Z (zΩ Z) zeM) 0 0 0 [(0, .ref (Z.2.2.1 + 292)), (1, .int (zi a1))] [] μ (f7_lays a1 μ)
  unfold f7_lays
  refine g_aload_n hK 0 rfl rfl d7_lays_0 ?_
  refine g_sipush hK d7_lays_1 zks604 ?_
  refine g_sipush hK d7_lays_4 zks413 ?_
  refine g_iload_n hK 1 rfl rfl d7_lays_7 ?_
  refine g_imul hK d7_lays_8 (fun v1 hv1 => ?_)
  refine g_iadd hK d7_lays_9 (fun v2 hv2 => ?_)
  refine g_putI hK zfin_7 (fa_7_22 kc_292) q_1219 hv2 rfl (tyX7_ok 22 (by decide)) tyX7 tyX7_ok nmX7 d7_lays_10 ?_
  refine g_ltM (fun m1 => ?_)
  refine g_aload_n hK 0 rfl rfl d7_lays_13 ?_
  refine g_aload_n hK 0 rfl rfl d7_lays_14 ?_
  refine g_getR hK zfin_7 (fa_7_1 kc_292) q_1198 (r := 293) (by decide +kernel) d7_lays_15 ?_
  refine g_aload_n hK 0 rfl rfl d7_lays_18 ?_
  refine g_getI hK zfin_7 (fa_7_22 kc_292) q_1219 d7_lays_19 (fun hf1 => ?_)
  refine g_iconst hK d7_lays_22 zki0 ?_
  refine g_iadd hK d7_lays_23 (fun v3 hv3 => ?_)
  refine g_iald hK kc_293 d7_lays_24 (fun _ hl1 => ?_)
  refine g_putI hK zfin_7 (fa_7_21 kc_292) q_1218 hl1 rfl (tyX7_ok 21 (by decide)) tyX7 tyX7_ok nmX7 d7_lays_25 ?_
  refine g_ltM (fun m2 => ?_)
  refine g_aload_n hK 0 rfl rfl d7_lays_28 ?_
  refine g_callVcm hK (rm := rm7_shows) (cb := 0) (sb := 0) (As := []) (b := 292) (n := 0) (c7_shows K.2.1 hK.2.2.2.2.2.2.2.2.1 Z  m2 ) rfl (ci := 7) rfl (by decide) kc_292 q_1471 q_1473 qs_7_shows q_7 q_1474 rfl (by decide +kernel) (by decide) (Nat.le_of_ble_eq_true rfl) (Nat.le_of_ble_eq_true rfl) (Nat.le_of_ble_eq_true rfl) rfl d7_lays_29 (fun m3 hm3 => ?_)
  exact g_vret hK rfl rfl d7_lays_32
set_option maxRecDepth 20000 in
theorem c7_laysBare (l : Launch) (hst : l.stackTraces = false) (Z : zZ) (a1 : Int) (μ : zM) (ha1 : zr a1) : ∀ x, f7_laysBare a1 μ = some x → zCt l Z (zΩ Z) y7_laysBare (zws (.code y7_laysBare b7_laysBare 2 (none))) rm7_laysBare [.ref (Z.2.2.1 + 292), .int (zi a1)] μ (zeM x) := by
  intro x h
  refine zCt.of (enc := zeM) h (by decide) hst (Nat.le_of_ble_eq_true rfl) (fun K hK0 hex hl _ => ?_)
  subst hl
  have hcx : zOk K Z b7_laysBare RX7 2 (none) 3 73 0 0 ∧ ∀ x ∈ K.2.2.2.2.2.2.2.2.2.exceptionTable.toList, False := ⟨hK0, hex⟩
  have hK := hcx.1
  show zG K Z (zΩ Z) (zF K Z (zΩ Z) zeM) 0 0 0 [(0, .ref (Z.2.2.1 + 292)), (1, .int (zi a1))] [] μ (f7_laysBare a1 μ)
  unfold f7_laysBare
  refine g_aload_n hK 0 rfl rfl d7_laysBare_0 ?_
  refine g_iconst hK d7_laysBare_1 zkim1 ?_
  refine g_putI hK zfin_7 (fa_7_22 kc_292) q_1219 zcm1 rfl (tyX7_ok 22 (by decide)) tyX7 tyX7_ok nmX7 d7_laysBare_2 ?_
  refine g_ltM (fun m1 => ?_)
  refine g_aload_n hK 0 rfl rfl d7_laysBare_5 ?_
  refine g_iload_n hK 1 rfl rfl d7_laysBare_6 ?_
  refine g_putI hK zfin_7 (fa_7_21 kc_292) q_1218 ha1 rfl (tyX7_ok 21 (by decide)) tyX7 tyX7_ok nmX7 d7_laysBare_7 ?_
  refine g_ltM (fun m2 => ?_)
  refine g_aload_n hK 0 rfl rfl d7_laysBare_10 ?_
  refine g_callVcm hK (rm := rm7_shows) (cb := 0) (sb := 0) (As := []) (b := 292) (n := 0) (c7_shows K.2.1 hK.2.2.2.2.2.2.2.2.1 Z  m2 ) rfl (ci := 7) rfl (by decide) kc_292 q_1471 q_1473 qs_7_shows q_7 q_1474 rfl (by decide +kernel) (by decide) (Nat.le_of_ble_eq_true rfl) (Nat.le_of_ble_eq_true rfl) (Nat.le_of_ble_eq_true rfl) rfl d7_laysBare_11 (fun m3 hm3 => ?_)
  exact g_vret hK rfl rfl d7_laysBare_14
