set_option maxRecDepth 20000 in
theorem c5_value (l : Launch) (hst : l.stackTraces = false) (Z : zZ) (a1 : Int) (a2 : Int) (μ : zM) (ha1 : zr a1) (ha2 : zr a2) : ∀ x, f5_value a1 a2 μ = some x → zCt l Z (zΩ Z) y5_value (zws (.code y5_value b5_value 3 (some .int))) rm5_value [.ref (Z.2.2.1 + 1), .int (zi a1), .int (zi a2)] μ (zeX mkI x) := by
  intro x h
  refine zCt.of (enc := (zeX mkI)) h (by decide) hst (Nat.le_of_ble_eq_true rfl) (fun K hK0 hex hl _ => ?_)
  subst hl
  have hcx : zOk K Z b5_value RX5 3 (some .int) 8 148 2 12 ∧ ∀ x ∈ K.2.2.2.2.2.2.2.2.2.exceptionTable.toList, False := ⟨hK0, hex⟩
  have hK := hcx.1
  show zG K Z (zΩ Z) (zF K Z (zΩ Z) (zeX mkI)) 2 12 0 [(0, .ref (Z.2.2.1 + 1)), (1, .int (zi a1)), (2, .int (zi a2))] [] μ (f5_value a1 a2 μ)
  unfold f5_value
  refine g_iload_n hK 1 rfl rfl d5_value_0 ?_
  refine g_callScx (mk2 := mkI) hK (mk := mkV) (rm := rm5_requireField) (cb := 1) (sb := 6) hex (As := [.int (zi a1)]) (n := 1) (c5_requireField K.2.1 hK.2.2.2.2.2.2.2.2.1 Z a1 μ ha1) q_863 q_864 q_1 q_865 rfl (by decide +kernel) (by decide) (Nat.le_of_ble_eq_true rfl) (Nat.le_of_ble_eq_true rfl) (Nat.le_of_ble_eq_true rfl) rfl d5_value_1 (fun r1 m1 hr1 hpr1 => ?_)
  refine g_aload_n hK 0 rfl rfl d5_value_4 ?_
  refine g_callVcx (mk2 := mkI) hK (mk := mkV) (rm := rm5_lookAtInnermost) (cb := 0) (sb := 0) hex (As := []) (b := 1) (n := 0) (c5_lookAtInnermost K.2.1 hK.2.2.2.2.2.2.2.2.1 Z  m1 ) rfl (ci := 5) rfl (by decide) kc_1 q_901 q_903 qs_5_lookAtInnermost q_1 q_904 rfl (by decide +kernel) (by decide) (Nat.le_of_ble_eq_true rfl) (Nat.le_of_ble_eq_true rfl) (Nat.le_of_ble_eq_true rfl) rfl d5_value_5 (fun r2 m2 hr2 hpr2 => ?_)
  refine g_aload_n hK 0 rfl rfl d5_value_8 ?_
  refine g_getR hK zfin_5 (fa_5_13 kc_1) q_294 (r := 200) (by decide +kernel) d5_value_9 ?_
  refine g_callVcm hK (rm := rm4_renderValues) (cb := 0) (sb := 0) (As := []) (b := 200) (n := 0) (c4_renderValues K.2.1 hK.2.2.2.2.2.2.2.2.1 Z  m2 ) rfl (ci := 4) rfl (by decide) kc_200 q_600 q_601 q_602 q_6 q_603 rfl (by decide +kernel) (by decide) (Nat.le_of_ble_eq_true rfl) (Nat.le_of_ble_eq_true rfl) (Nat.le_of_ble_eq_true rfl) rfl d5_value_12 (fun m3 hm3 => ?_)
  refine g_aload_n hK 0 rfl rfl d5_value_15 ?_
  refine g_getR hK zfin_5 (fa_5_13 kc_1) q_294 (r := 200) (by decide +kernel) d5_value_16 ?_
  refine g_iload_n hK 1 rfl rfl d5_value_19 ?_
  refine g_iload_n hK 2 rfl rfl d5_value_20 ?_
  refine g_callVco hK (mk := mkI) (rm := rm4_valueByte) (cb := 0) (sb := 0) (As := [.int (zi a1), .int (zi a2)]) (b := 200) (n := 2) (c4_valueByte K.2.1 hK.2.2.2.2.2.2.2.2.1 Z a1 a2 m3 ha1 ha2) rfl (ci := 4) rfl (by decide) kc_200 q_923 q_924 q_925 q_6 q_926 rfl (by decide +kernel) (by decide) (Nat.le_of_ble_eq_true rfl) (Nat.le_of_ble_eq_true rfl) (Nat.le_of_ble_eq_true rfl) rfl d5_value_21 (fun r3 hr3 hpr3 => ?_)
  exact g_iret hK hpr3 rfl rfl d5_value_24
set_option maxRecDepth 20000 in
theorem p5_occurrence_24 {K : zK} {Z : zZ} (hcx : zOk K Z b5_occurrence RX5 4 (some .int) 8 148 2 12 ∧ ∀ x ∈ K.2.2.2.2.2.2.2.2.2.exceptionTable.toList, False) (a1 : Int) (a2 : Int) (ha1 : zr a1) (ha2 : zr a2) (μ : zM) : zG K Z (zΩ Z) (zF K Z (zΩ Z) (zeX mkI)) 1 6 24 [] [] μ (f5_occurrence_24 a1 a2 μ) := by
  obtain ⟨hK, hex⟩ := id hcx
  unfold f5_occurrence_24
  exact g_throw hK (i9 := 11) hex rfl (by decide) q_818 q_19 rfl th_5_162 th_5_162_g158 d5_occurrence_24 d5_occurrence_27 d5_occurrence_28 d5_occurrence_30 d5_occurrence_33 (by decide) (Nat.le_of_ble_eq_true rfl) (by decide) (by decide)
set_option maxRecDepth 20000 in
theorem c5_occurrence (l : Launch) (hst : l.stackTraces = false) (Z : zZ) (a1 : Int) (a2 : Int) (μ : zM) (ha1 : zr a1) (ha2 : zr a2) : ∀ x, f5_occurrence a1 a2 μ = some x → zCt l Z (zΩ Z) y5_occurrence (zws (.code y5_occurrence b5_occurrence 4 (some .int))) rm5_occurrence [.ref (Z.2.2.1 + 1), .int (zi a1), .int (zi a2)] μ (zeX mkI x) := by
  intro x h
  refine zCt.of (enc := (zeX mkI)) h (by decide) hst (Nat.le_of_ble_eq_true rfl) (fun K hK0 hex hl _ => ?_)
  subst hl
  have hcx : zOk K Z b5_occurrence RX5 4 (some .int) 8 148 2 12 ∧ ∀ x ∈ K.2.2.2.2.2.2.2.2.2.exceptionTable.toList, False := ⟨hK0, hex⟩
  have hK := hcx.1
  show zG K Z (zΩ Z) (zF K Z (zΩ Z) (zeX mkI)) 2 12 0 [(0, .ref (Z.2.2.1 + 1)), (1, .int (zi a1)), (2, .int (zi a2))] [] μ (f5_occurrence a1 a2 μ)
  unfold f5_occurrence
  refine g_aload_n hK 0 rfl rfl d5_occurrence_0 ?_
  refine g_callVcx (mk2 := mkI) hK (mk := mkV) (rm := rm5_lookAtInnermost) (cb := 1) (sb := 6) hex (As := []) (b := 1) (n := 0) (c5_lookAtInnermost K.2.1 hK.2.2.2.2.2.2.2.2.1 Z  μ ) rfl (ci := 5) rfl (by decide) kc_1 q_901 q_903 qs_5_lookAtInnermost q_1 q_904 rfl (by decide +kernel) (by decide) (Nat.le_of_ble_eq_true rfl) (Nat.le_of_ble_eq_true rfl) (Nat.le_of_ble_eq_true rfl) rfl d5_occurrence_1 (fun r1 m1 hr1 hpr1 => ?_)
  refine g_aload_n hK 0 rfl rfl d5_occurrence_4 ?_
  refine g_getR hK zfin_5 (fa_5_13 kc_1) q_294 (r := 200) (by decide +kernel) d5_occurrence_5 ?_
  refine g_getM hK zfin_4 (fa_4_0 kc_200) q_229 (w := 2) (by decide) d5_occurrence_8 (fun hm1 => ?_)
  refine g_astore_n hK (lv2 := [(0, .ref (Z.2.2.1 + 1)), (1, .int (zi a1)), (2, .int (zi a2)), (3, .ref (Z.2.2.1 + (zR m1 200 0)))]) [1, 2, 3, 0] rfl rfl (by decide) d5_occurrence_11 ?_
  refine g_iload_n hK 1 rfl rfl d5_occurrence_12 ?_
  refine g_if_lt hK ha1 (tgt := 24) (by decide) d5_occurrence_13 (fun _ => ?_) (fun _ => ?_)
  · refine g_lv (lv2 := []) [] rfl ?_
    exact p5_occurrence_24 hcx a1 a2 ha1 ha2   m1 
  · refine g_iload_n hK 1 rfl rfl d5_occurrence_16 ?_
    refine g_aload_n hK 3 rfl rfl d5_occurrence_17 ?_
    refine g_getI hK zfin_2 (fa_2_2 hm1) q_51 d5_occurrence_18 (fun hf1 => ?_)
    refine g_icmp_lt hK ha1 hf1 (tgt := 34) (by decide) d5_occurrence_21 (fun _ => ?_) (fun _ => ?_)
    · refine g_iload_n hK 2 rfl rfl d5_occurrence_34 ?_
      refine g_case (fun hs0 => ?_) (fun hs0 => ?_)
      · refine g_tabIn hK (v := 0) (tgt := 80) ha2 hs0 (by decide) (by decide) rfl (by decide) d5_occurrence_35 ?_
        refine g_aload_n hK 3 rfl rfl d5_occurrence_80 ?_
        refine g_getR hK zfin_2 (fa_2_4 hm1) q_60 (pt_2_fields hm1) d5_occurrence_81 ?_
        refine g_iload_n hK 1 rfl rfl d5_occurrence_84 ?_
        refine g_iald hK (pt_2_fields_k hm1) d5_occurrence_85 (fun _ hl1 => ?_)
        exact g_iret hK hl1 rfl rfl d5_occurrence_86
      refine g_case (fun hs1 => ?_) (fun hs1 => ?_)
      · refine g_tabIn hK (v := 1) (tgt := 87) ha2 hs1 (by decide) (by decide) rfl (by decide) d5_occurrence_35 ?_
        refine g_aload_n hK 3 rfl rfl d5_occurrence_87 ?_
        refine g_getR hK zfin_2 (fa_2_5 hm1) q_63 (pt_2_changes hm1) d5_occurrence_88 ?_
        refine g_iload_n hK 1 rfl rfl d5_occurrence_91 ?_
        refine g_iald hK (pt_2_changes_k hm1) d5_occurrence_92 (fun _ hl2 => ?_)
        exact g_iret hK hl2 rfl rfl d5_occurrence_93
      refine g_case (fun hs2 => ?_) (fun hs2 => ?_)
      · refine g_tabIn hK (v := 2) (tgt := 94) ha2 hs2 (by decide) (by decide) rfl (by decide) d5_occurrence_35 ?_
        refine g_aload_n hK 3 rfl rfl d5_occurrence_94 ?_
        refine g_getR hK zfin_2 (fa_2_6 hm1) q_67 (pt_2_hasDefault hm1) d5_occurrence_95 ?_
        refine g_iload_n hK 1 rfl rfl d5_occurrence_98 ?_
        refine g_zald hK (pt_2_hasDefault_k hm1) d5_occurrence_99 (fun _ hl3 => ?_)
        refine g_if_eq hK hl3 (tgt := 107) (by decide) d5_occurrence_100 (fun _ => ?_) (fun _ => ?_)
        · refine g_iconst hK d5_occurrence_107 zki0 ?_
          exact g_iret hK zc0 rfl rfl d5_occurrence_108
        · refine g_iconst hK d5_occurrence_103 zki1 ?_
          refine g_goto hK (tgt := 108) (by decide) d5_occurrence_104 ?_
          exact g_iret hK zc1 rfl rfl d5_occurrence_108
      refine g_case (fun hs3 => ?_) (fun hs3 => ?_)
      · refine g_tabIn hK (v := 3) (tgt := 109) ha2 hs3 (by decide) (by decide) rfl (by decide) d5_occurrence_35 ?_
        refine g_aload_n hK 3 rfl rfl d5_occurrence_109 ?_
        refine g_getR hK zfin_2 (fa_2_7 hm1) q_72 (pt_2_parents hm1) d5_occurrence_110 ?_
        refine g_iload_n hK 1 rfl rfl d5_occurrence_113 ?_
        refine g_iald hK (pt_2_parents_k hm1) d5_occurrence_114 (fun _ hl4 => ?_)
        exact g_iret hK hl4 rfl rfl d5_occurrence_115
      refine g_case (fun hs4 => ?_) (fun hs4 => ?_)
      · refine g_tabIn hK (v := 4) (tgt := 116) ha2 hs4 (by decide) (by decide) rfl (by decide) d5_occurrence_35 ?_
        refine g_aload_n hK 0 rfl rfl d5_occurrence_116 ?_
        refine g_getR hK zfin_5 (fa_5_13 kc_1) q_294 (r := 200) (by decide +kernel) d5_occurrence_117 ?_
        refine g_getR hK zfin_4 (fa_4_4 kc_200) q_236 (r := 202) (by decide +kernel) d5_occurrence_120 ?_
        refine g_iload_n hK 1 rfl rfl d5_occurrence_123 ?_
        refine g_zald hK kc_202 d5_occurrence_124 (fun _ hl5 => ?_)
        refine g_if_eq hK hl5 (tgt := 132) (by decide) d5_occurrence_125 (fun _ => ?_) (fun _ => ?_)
        · refine g_iconst hK d5_occurrence_132 zki0 ?_
          exact g_iret hK zc0 rfl rfl d5_occurrence_133
        · refine g_iconst hK d5_occurrence_128 zki1 ?_
          refine g_goto hK (tgt := 133) (by decide) d5_occurrence_129 ?_
          exact g_iret hK zc1 rfl rfl d5_occurrence_133
      refine g_case (fun hs5 => ?_) (fun hs5 => ?_)
      · refine g_tabIn hK (v := 5) (tgt := 134) ha2 hs5 (by decide) (by decide) rfl (by decide) d5_occurrence_35 ?_
        refine g_aload_n hK 0 rfl rfl d5_occurrence_134 ?_
        refine g_getR hK zfin_5 (fa_5_13 kc_1) q_294 (r := 200) (by decide +kernel) d5_occurrence_135 ?_
        refine g_iload_n hK 1 rfl rfl d5_occurrence_138 ?_
        refine g_callVco hK (mk := mkZ) (rm := rm4_isDefaultShown) (cb := 1) (sb := 6) (As := [.int (zi a1)]) (b := 200) (n := 1) (c4_isDefaultShown K.2.1 hK.2.2.2.2.2.2.2.2.1 Z a1 m1 ha1) rfl (ci := 4) rfl (by decide) kc_200 q_935 q_541 q_542 q_6 q_543 rfl (by decide +kernel) (by decide) (Nat.le_of_ble_eq_true rfl) (Nat.le_of_ble_eq_true rfl) (Nat.le_of_ble_eq_true rfl) rfl d5_occurrence_139 (fun r2 hr2 hpr2 => ?_)
        refine g_if_eq hK (zb_r r2) (tgt := 149) (by decide) d5_occurrence_142 (fun _ => ?_) (fun _ => ?_)
        · refine g_iconst hK d5_occurrence_149 zki0 ?_
          exact g_iret hK zc0 rfl rfl d5_occurrence_150
        · refine g_iconst hK d5_occurrence_145 zki1 ?_
          refine g_goto hK (tgt := 150) (by decide) d5_occurrence_146 ?_
          exact g_iret hK zc1 rfl rfl d5_occurrence_150
      refine g_case (fun hs6 => ?_) (fun hs6 => ?_)
      · refine g_tabIn hK (v := 6) (tgt := 151) ha2 hs6 (by decide) (by decide) rfl (by decide) d5_occurrence_35 ?_
        refine g_aload_n hK 0 rfl rfl d5_occurrence_151 ?_
        refine g_getR hK zfin_5 (fa_5_13 kc_1) q_294 (r := 200) (by decide +kernel) d5_occurrence_152 ?_
        refine g_iload_n hK 1 rfl rfl d5_occurrence_155 ?_
        refine g_callVco hK (mk := mkL) (rm := rm4_changedLength) (cb := 1) (sb := 6) (As := [.int (zi a1)]) (b := 200) (n := 1) (c4_changedLength K.2.1 hK.2.2.2.2.2.2.2.2.1 Z a1 m1 ha1) rfl (ci := 4) rfl (by decide) kc_200 q_936 q_559 q_560 q_6 q_561 rfl (by decide +kernel) (by decide) (Nat.le_of_ble_eq_true rfl) (Nat.le_of_ble_eq_true rfl) (Nat.le_of_ble_eq_true rfl) rfl d5_occurrence_156 (fun r3 hr3 hpr3 => ?_)
        refine g_l2i hK d5_occurrence_159 (fun v1 hv1 => ?_)
        exact g_iret hK hv1 rfl rfl d5_occurrence_160
      refine g_case (fun hs7 => ?_) (fun hs7 => ?_)
      · refine g_tabIn hK (v := 7) (tgt := 161) ha2 hs7 (by decide) (by decide) rfl (by decide) d5_occurrence_35 ?_
        refine g_aload_n hK 0 rfl rfl d5_occurrence_161 ?_
        refine g_getR hK zfin_5 (fa_5_13 kc_1) q_294 (r := 200) (by decide +kernel) d5_occurrence_162 ?_
        refine g_iload_n hK 1 rfl rfl d5_occurrence_165 ?_
        refine g_callVco hK (mk := mkI) (rm := rm4_startOf) (cb := 1) (sb := 6) (As := [.int (zi a1)]) (b := 200) (n := 1) (c4_startOf K.2.1 hK.2.2.2.2.2.2.2.2.1 Z a1 m1 ha1) rfl (ci := 4) rfl (by decide) kc_200 q_937 q_938 q_939 q_6 q_940 rfl (by decide +kernel) (by decide) (Nat.le_of_ble_eq_true rfl) (Nat.le_of_ble_eq_true rfl) (Nat.le_of_ble_eq_true rfl) rfl d5_occurrence_166 (fun r4 hr4 hpr4 => ?_)
        exact g_iret hK hpr4 rfl rfl d5_occurrence_169
      refine g_tabOut hK (tgt := 170) ha2 (by omega) (by decide) d5_occurrence_35 ?_
      exact g_throw hK (i9 := 5) hex rfl (by decide) q_790 q_18 rfl th_5_123 th_5_123_g119 d5_occurrence_170 d5_occurrence_173 d5_occurrence_174 d5_occurrence_176 d5_occurrence_179 (by decide) (Nat.le_of_ble_eq_true rfl) (by decide) (by decide)
    · refine g_lv (lv2 := []) [] rfl ?_
      exact p5_occurrence_24 hcx a1 a2 ha1 ha2   m1 
set_option maxRecDepth 20000 in
theorem c5_text (l : Launch) (hst : l.stackTraces = false) (Z : zZ) (a1 : Int) (μ : zM) (ha1 : zr a1) : ∀ x, f5_text a1 μ = some x → zCt l Z (zΩ Z) y5_text (zws (.code y5_text b5_text 2 (some .int))) rm5_text [.ref (Z.2.2.1 + 1), .int (zi a1)] μ (zeX mkI x) := by
  intro x h
  refine zCt.of (enc := (zeX mkI)) h (by decide) hst (Nat.le_of_ble_eq_true rfl) (fun K hK0 hex hl _ => ?_)
  subst hl
  have hcx : zOk K Z b5_text RX5 2 (some .int) 8 148 1 6 ∧ ∀ x ∈ K.2.2.2.2.2.2.2.2.2.exceptionTable.toList, False := ⟨hK0, hex⟩
  have hK := hcx.1
  show zG K Z (zΩ Z) (zF K Z (zΩ Z) (zeX mkI)) 1 6 0 [(0, .ref (Z.2.2.1 + 1)), (1, .int (zi a1))] [] μ (f5_text a1 μ)
  unfold f5_text
  refine g_aload_n hK 0 rfl rfl d5_text_0 ?_
  refine g_callVcx (mk2 := mkI) hK (mk := mkV) (rm := rm5_lookAtInnermost) (cb := 0) (sb := 0) hex (As := []) (b := 1) (n := 0) (c5_lookAtInnermost K.2.1 hK.2.2.2.2.2.2.2.2.1 Z  μ ) rfl (ci := 5) rfl (by decide) kc_1 q_901 q_903 qs_5_lookAtInnermost q_1 q_904 rfl (by decide +kernel) (by decide) (Nat.le_of_ble_eq_true rfl) (Nat.le_of_ble_eq_true rfl) (Nat.le_of_ble_eq_true rfl) rfl d5_text_1 (fun r1 m1 hr1 hpr1 => ?_)
  refine g_iload_n hK 1 rfl rfl d5_text_4 ?_
  refine g_if_lt hK ha1 (tgt := 21) (by decide) d5_text_5 (fun _ => ?_) (fun _ => ?_)
  · refine g_iconst hK d5_text_21 zkim1 ?_
    exact g_iret hK zcm1 rfl rfl d5_text_22
  · refine g_iload_n hK 1 rfl rfl d5_text_8 ?_
    refine g_i2l hK d5_text_9 ha1 ?_
    refine g_aload_n hK 0 rfl rfl d5_text_10 ?_
    refine g_getR hK zfin_5 (fa_5_13 kc_1) q_294 (r := 200) (by decide +kernel) d5_text_11 ?_
    refine g_getL hK zfin_4 (fa_4_8 kc_200) q_244 d5_text_14 (fun hf1 => ?_)
    refine g_lcmp hK d5_text_17 (zr_64 ha1) hf1 (fun v1 hv1 => ?_)
    refine g_if_lt hK hv1 (tgt := 23) (by decide) d5_text_18 (fun _ => ?_) (fun _ => ?_)
    · refine g_aload_n hK 0 rfl rfl d5_text_23 ?_
      refine g_getR hK zfin_5 (fa_5_13 kc_1) q_294 (r := 200) (by decide +kernel) d5_text_24 ?_
      refine g_callVcm hK (rm := rm4_renderText) (cb := 0) (sb := 0) (As := []) (b := 200) (n := 0) (c4_renderText K.2.1 hK.2.2.2.2.2.2.2.2.1 Z  m1 ) rfl (ci := 4) rfl (by decide) kc_200 q_674 q_675 q_676 q_6 q_677 rfl (by decide +kernel) (by decide) (Nat.le_of_ble_eq_true rfl) (Nat.le_of_ble_eq_true rfl) (Nat.le_of_ble_eq_true rfl) rfl d5_text_27 (fun m2 hm2 => ?_)
      refine g_aload_n hK 0 rfl rfl d5_text_30 ?_
      refine g_getR hK zfin_5 (fa_5_13 kc_1) q_294 (r := 200) (by decide +kernel) d5_text_31 ?_
      refine g_getR hK zfin_4 (fa_4_12 kc_200) q_252 (r := 208) (by decide +kernel) d5_text_34 ?_
      refine g_iload_n hK 1 rfl rfl d5_text_37 ?_
      refine g_iald hK kc_208 d5_text_38 (fun _ hl1 => ?_)
      exact g_iret hK hl1 rfl rfl d5_text_39
    · refine g_iconst hK d5_text_21 zkim1 ?_
      exact g_iret hK zcm1 rfl rfl d5_text_22
set_option maxRecDepth 20000 in
theorem c5_orderAt (l : Launch) (hst : l.stackTraces = false) (Z : zZ) (a1 : Int) (μ : zM) (ha1 : zr a1) : ∀ x, f5_orderAt a1 μ = some x → zCt l Z (zΩ Z) y5_orderAt (zws (.code y5_orderAt b5_orderAt 2 (some .int))) rm5_orderAt [.ref (Z.2.2.1 + 1), .int (zi a1)] μ (zeX mkI x) := by
  intro x h
  refine zCt.of (enc := (zeX mkI)) h (by decide) hst (Nat.le_of_ble_eq_true rfl) (fun K hK0 hex hl _ => ?_)
  subst hl
  have hcx : zOk K Z b5_orderAt RX5 2 (some .int) 8 148 1 6 ∧ ∀ x ∈ K.2.2.2.2.2.2.2.2.2.exceptionTable.toList, False := ⟨hK0, hex⟩
  have hK := hcx.1
  show zG K Z (zΩ Z) (zF K Z (zΩ Z) (zeX mkI)) 1 6 0 [(0, .ref (Z.2.2.1 + 1)), (1, .int (zi a1))] [] μ (f5_orderAt a1 μ)
  unfold f5_orderAt
  refine g_aload_n hK 0 rfl rfl d5_orderAt_0 ?_
  refine g_callVcx (mk2 := mkI) hK (mk := mkV) (rm := rm5_lookAtInnermost) (cb := 0) (sb := 0) hex (As := []) (b := 1) (n := 0) (c5_lookAtInnermost K.2.1 hK.2.2.2.2.2.2.2.2.1 Z  μ ) rfl (ci := 5) rfl (by decide) kc_1 q_901 q_903 qs_5_lookAtInnermost q_1 q_904 rfl (by decide +kernel) (by decide) (Nat.le_of_ble_eq_true rfl) (Nat.le_of_ble_eq_true rfl) (Nat.le_of_ble_eq_true rfl) rfl d5_orderAt_1 (fun r1 m1 hr1 hpr1 => ?_)
  refine g_iload_n hK 1 rfl rfl d5_orderAt_4 ?_
  refine g_if_lt hK ha1 (tgt := 31) (by decide) d5_orderAt_5 (fun _ => ?_) (fun _ => ?_)
  · refine g_iconst hK d5_orderAt_31 zkim1 ?_
    exact g_iret hK zcm1 rfl rfl d5_orderAt_32
  · refine g_iload_n hK 1 rfl rfl d5_orderAt_8 ?_
    refine g_aload_n hK 0 rfl rfl d5_orderAt_9 ?_
    refine g_getR hK zfin_5 (fa_5_13 kc_1) q_294 (r := 200) (by decide +kernel) d5_orderAt_10 ?_
    refine g_getI hK zfin_4 (fa_4_10 kc_200) q_248 d5_orderAt_13 (fun hf1 => ?_)
    refine g_icmp_ge hK ha1 hf1 (tgt := 31) (by decide) d5_orderAt_16 (fun _ => ?_) (fun _ => ?_)
    · refine g_iconst hK d5_orderAt_31 zkim1 ?_
      exact g_iret hK zcm1 rfl rfl d5_orderAt_32
    · refine g_aload_n hK 0 rfl rfl d5_orderAt_19 ?_
      refine g_getR hK zfin_5 (fa_5_13 kc_1) q_294 (r := 200) (by decide +kernel) d5_orderAt_20 ?_
      refine g_getR hK zfin_4 (fa_4_9 kc_200) q_246 (r := 206) (by decide +kernel) d5_orderAt_23 ?_
      refine g_iload_n hK 1 rfl rfl d5_orderAt_26 ?_
      refine g_iald hK kc_206 d5_orderAt_27 (fun _ hl1 => ?_)
      refine g_goto hK (tgt := 32) (by decide) d5_orderAt_28 ?_
      exact g_iret hK hl1 rfl rfl d5_orderAt_32
set_option maxRecDepth 20000 in
theorem c5_why (l : Launch) (hst : l.stackTraces = false) (Z : zZ) (a1 : Int) (μ : zM) (ha1 : zr a1) : ∀ x, f5_why a1 μ = some x → zCt l Z (zΩ Z) y5_why (zws (.code y5_why b5_why 2 (some .int))) rm5_why [.ref (Z.2.2.1 + 1), .int (zi a1)] μ (zeX mkI x) := by
  intro x h
  refine zCt.of (enc := (zeX mkI)) h (by decide) hst (Nat.le_of_ble_eq_true rfl) (fun K hK0 hex hl _ => ?_)
  subst hl
  have hcx : zOk K Z b5_why RX5 2 (some .int) 8 148 2 12 ∧ ∀ x ∈ K.2.2.2.2.2.2.2.2.2.exceptionTable.toList, False := ⟨hK0, hex⟩
  have hK := hcx.1
  show zG K Z (zΩ Z) (zF K Z (zΩ Z) (zeX mkI)) 2 12 0 [(0, .ref (Z.2.2.1 + 1)), (1, .int (zi a1))] [] μ (f5_why a1 μ)
  unfold f5_why
  refine g_iload_n hK 1 rfl rfl d5_why_0 ?_
  refine g_callScx (mk2 := mkI) hK (mk := mkV) (rm := rm5_requireField) (cb := 1) (sb := 6) hex (As := [.int (zi a1)]) (n := 1) (c5_requireField K.2.1 hK.2.2.2.2.2.2.2.2.1 Z a1 μ ha1) q_863 q_864 q_1 q_865 rfl (by decide +kernel) (by decide) (Nat.le_of_ble_eq_true rfl) (Nat.le_of_ble_eq_true rfl) (Nat.le_of_ble_eq_true rfl) rfl d5_why_1 (fun r1 m1 hr1 hpr1 => ?_)
  refine g_aload_n hK 0 rfl rfl d5_why_4 ?_
  refine g_callVcx (mk2 := mkI) hK (mk := mkV) (rm := rm5_lookAtInnermost) (cb := 0) (sb := 0) hex (As := []) (b := 1) (n := 0) (c5_lookAtInnermost K.2.1 hK.2.2.2.2.2.2.2.2.1 Z  m1 ) rfl (ci := 5) rfl (by decide) kc_1 q_901 q_903 qs_5_lookAtInnermost q_1 q_904 rfl (by decide +kernel) (by decide) (Nat.le_of_ble_eq_true rfl) (Nat.le_of_ble_eq_true rfl) (Nat.le_of_ble_eq_true rfl) rfl d5_why_5 (fun r2 m2 hr2 hpr2 => ?_)
  refine g_aload_n hK 0 rfl rfl d5_why_8 ?_
  refine g_getR hK zfin_5 (fa_5_13 kc_1) q_294 (r := 200) (by decide +kernel) d5_why_9 ?_
  refine g_iload_n hK 1 rfl rfl d5_why_12 ?_
  refine g_callVco hK (mk := mkI) (rm := rm4_reasonNotLive) (cb := 0) (sb := 0) (As := [.int (zi a1)]) (b := 200) (n := 1) (c4_reasonNotLive K.2.1 hK.2.2.2.2.2.2.2.2.1 Z a1 m2 ha1) rfl (ci := 4) rfl (by decide) kc_200 q_966 q_967 q_968 q_6 q_969 rfl (by decide +kernel) (by decide) (Nat.le_of_ble_eq_true rfl) (Nat.le_of_ble_eq_true rfl) (Nat.le_of_ble_eq_true rfl) rfl d5_why_13 (fun r3 hr3 hpr3 => ?_)
  exact g_iret hK hpr3 rfl rfl d5_why_16
set_option maxRecDepth 20000 in
theorem c5_yielded (l : Launch) (hst : l.stackTraces = false) (Z : zZ) (μ : zM) : ∀ x, f5_yielded μ = some x → zCt l Z (zΩ Z) y5_yielded (zws (.code y5_yielded b5_yielded 1 (some .int))) rm5_yielded [.ref (Z.2.2.1 + 1)] μ (zeX mkI x) := by
  intro x h
  refine zCt.of (enc := (zeX mkI)) h (by decide) hst (Nat.le_of_ble_eq_true rfl) (fun K hK0 hex hl _ => ?_)
  subst hl
  have hcx : zOk K Z b5_yielded RX5 1 (some .int) 8 148 1 6 ∧ ∀ x ∈ K.2.2.2.2.2.2.2.2.2.exceptionTable.toList, False := ⟨hK0, hex⟩
  have hK := hcx.1
  show zG K Z (zΩ Z) (zF K Z (zΩ Z) (zeX mkI)) 1 6 0 [(0, .ref (Z.2.2.1 + 1))] [] μ (f5_yielded μ)
  unfold f5_yielded
  refine g_aload_n hK 0 rfl rfl d5_yielded_0 ?_
  refine g_callVcx (mk2 := mkI) hK (mk := mkV) (rm := rm5_lookAtInnermost) (cb := 0) (sb := 0) hex (As := []) (b := 1) (n := 0) (c5_lookAtInnermost K.2.1 hK.2.2.2.2.2.2.2.2.1 Z  μ ) rfl (ci := 5) rfl (by decide) kc_1 q_901 q_903 qs_5_lookAtInnermost q_1 q_904 rfl (by decide +kernel) (by decide) (Nat.le_of_ble_eq_true rfl) (Nat.le_of_ble_eq_true rfl) (Nat.le_of_ble_eq_true rfl) rfl d5_yielded_1 (fun r1 m1 hr1 hpr1 => ?_)
  refine g_aload_n hK 0 rfl rfl d5_yielded_4 ?_
  refine g_getR hK zfin_5 (fa_5_13 kc_1) q_294 (r := 200) (by decide +kernel) d5_yielded_5 ?_
  refine g_callVco hK (mk := mkI) (rm := rm4_countYielded) (cb := 0) (sb := 0) (As := []) (b := 200) (n := 0) (c4_countYielded K.2.1 hK.2.2.2.2.2.2.2.2.1 Z  m1 ) rfl (ci := 4) rfl (by decide) kc_200 q_977 q_978 q_979 q_6 q_980 rfl (by decide +kernel) (by decide) (Nat.le_of_ble_eq_true rfl) (Nat.le_of_ble_eq_true rfl) (Nat.le_of_ble_eq_true rfl) rfl d5_yielded_8 (fun r2 hr2 hpr2 => ?_)
  exact g_iret hK hpr2 rfl rfl d5_yielded_11
set_option maxRecDepth 20000 in
theorem c5_mirrored (l : Launch) (hst : l.stackTraces = false) (Z : zZ) (μ : zM) : ∀ x, f5_mirrored μ = some x → zCt l Z (zΩ Z) y5_mirrored (zws (.code y5_mirrored b5_mirrored 1 (some .int))) rm5_mirrored [.ref (Z.2.2.1 + 1)] μ (zeX mkI x) := by
  intro x h
  refine zCt.of (enc := (zeX mkI)) h (by decide) hst (Nat.le_of_ble_eq_true rfl) (fun K hK0 hex hl _ => ?_)
  subst hl
  have hcx : zOk K Z b5_mirrored RX5 1 (some .int) 8 148 1 6 ∧ ∀ x ∈ K.2.2.2.2.2.2.2.2.2.exceptionTable.toList, False := ⟨hK0, hex⟩
  have hK := hcx.1
  show zG K Z (zΩ Z) (zF K Z (zΩ Z) (zeX mkI)) 1 6 0 [(0, .ref (Z.2.2.1 + 1))] [] μ (f5_mirrored μ)
  unfold f5_mirrored
  refine g_aload_n hK 0 rfl rfl d5_mirrored_0 ?_
  refine g_callVcx (mk2 := mkI) hK (mk := mkV) (rm := rm5_lookAtInnermost) (cb := 0) (sb := 0) hex (As := []) (b := 1) (n := 0) (c5_lookAtInnermost K.2.1 hK.2.2.2.2.2.2.2.2.1 Z  μ ) rfl (ci := 5) rfl (by decide) kc_1 q_901 q_903 qs_5_lookAtInnermost q_1 q_904 rfl (by decide +kernel) (by decide) (Nat.le_of_ble_eq_true rfl) (Nat.le_of_ble_eq_true rfl) (Nat.le_of_ble_eq_true rfl) rfl d5_mirrored_1 (fun r1 m1 hr1 hpr1 => ?_)
  refine g_aload_n hK 0 rfl rfl d5_mirrored_4 ?_
  refine g_getR hK zfin_5 (fa_5_13 kc_1) q_294 (r := 200) (by decide +kernel) d5_mirrored_5 ?_
  refine g_callVco hK (mk := mkI) (rm := rm4_countMirrored) (cb := 0) (sb := 0) (As := []) (b := 200) (n := 0) (c4_countMirrored K.2.1 hK.2.2.2.2.2.2.2.2.1 Z  m1 ) rfl (ci := 4) rfl (by decide) kc_200 q_988 q_989 q_990 q_6 q_991 rfl (by decide +kernel) (by decide) (Nat.le_of_ble_eq_true rfl) (Nat.le_of_ble_eq_true rfl) (Nat.le_of_ble_eq_true rfl) rfl d5_mirrored_8 (fun r2 hr2 hpr2 => ?_)
  exact g_iret hK hpr2 rfl rfl d5_mirrored_11
set_option maxRecDepth 20000 in
theorem c5_longest (l : Launch) (hst : l.stackTraces = false) (Z : zZ) (μ : zM) : ∀ x, f5_longest μ = some x → zCt l Z (zΩ Z) y5_longest (zws (.code y5_longest b5_longest 1 (some .int))) rm5_longest [.ref (Z.2.2.1 + 1)] μ (zeX mkI x) := by
  intro x h
  refine zCt.of (enc := (zeX mkI)) h (by decide) hst (Nat.le_of_ble_eq_true rfl) (fun K hK0 hex hl _ => ?_)
  subst hl
  have hcx : zOk K Z b5_longest RX5 1 (some .int) 8 148 1 6 ∧ ∀ x ∈ K.2.2.2.2.2.2.2.2.2.exceptionTable.toList, False := ⟨hK0, hex⟩
  have hK := hcx.1
  show zG K Z (zΩ Z) (zF K Z (zΩ Z) (zeX mkI)) 1 6 0 [(0, .ref (Z.2.2.1 + 1))] [] μ (f5_longest μ)
  unfold f5_longest
  refine g_aload_n hK 0 rfl rfl d5_longest_0 ?_
  refine g_callVcx (mk2 := mkI) hK (mk := mkV) (rm := rm5_lookAtInnermost) (cb := 0) (sb := 0) hex (As := []) (b := 1) (n := 0) (c5_lookAtInnermost K.2.1 hK.2.2.2.2.2.2.2.2.1 Z  μ ) rfl (ci := 5) rfl (by decide) kc_1 q_901 q_903 qs_5_lookAtInnermost q_1 q_904 rfl (by decide +kernel) (by decide) (Nat.le_of_ble_eq_true rfl) (Nat.le_of_ble_eq_true rfl) (Nat.le_of_ble_eq_true rfl) rfl d5_longest_1 (fun r1 m1 hr1 hpr1 => ?_)
  refine g_aload_n hK 0 rfl rfl d5_longest_4 ?_
  refine g_getR hK zfin_5 (fa_5_13 kc_1) q_294 (r := 200) (by decide +kernel) d5_longest_5 ?_
  refine g_callVco hK (mk := mkI) (rm := rm4_fieldOfLongestValue) (cb := 0) (sb := 0) (As := []) (b := 200) (n := 0) (c4_fieldOfLongestValue K.2.1 hK.2.2.2.2.2.2.2.2.1 Z  m1 ) rfl (ci := 4) rfl (by decide) kc_200 q_999 q_1000 q_1001 q_6 q_1002 rfl (by decide +kernel) (by decide) (Nat.le_of_ble_eq_true rfl) (Nat.le_of_ble_eq_true rfl) (Nat.le_of_ble_eq_true rfl) rfl d5_longest_8 (fun r2 hr2 hpr2 => ?_)
  exact g_iret hK hpr2 rfl rfl d5_longest_11
set_option maxRecDepth 20000 in
theorem c5_untouched (l : Launch) (hst : l.stackTraces = false) (Z : zZ) (μ : zM) : ∀ x, f5_untouched μ = some x → zCt l Z (zΩ Z) y5_untouched (zws (.code y5_untouched b5_untouched 3 (some .float))) rm5_untouched [.ref (Z.2.2.1 + 1)] μ (zeX mkF x) := by
  intro x h
  refine zCt.of (enc := (zeX mkF)) h (by decide) hst (Nat.le_of_ble_eq_true rfl) (fun K hK0 hex hl _ => ?_)
  subst hl
  have hcx : zOk K Z b5_untouched RX5 3 (some .float) 8 148 1 6 ∧ ∀ x ∈ K.2.2.2.2.2.2.2.2.2.exceptionTable.toList, False := ⟨hK0, hex⟩
  have hK := hcx.1
  show zG K Z (zΩ Z) (zF K Z (zΩ Z) (zeX mkF)) 1 6 0 [(0, .ref (Z.2.2.1 + 1))] [] μ (f5_untouched μ)
  unfold f5_untouched
  refine g_aload_n hK 0 rfl rfl d5_untouched_0 ?_
  refine g_callVcx (mk2 := mkF) hK (mk := mkV) (rm := rm5_lookAtInnermost) (cb := 0) (sb := 0) hex (As := []) (b := 1) (n := 0) (c5_lookAtInnermost K.2.1 hK.2.2.2.2.2.2.2.2.1 Z  μ ) rfl (ci := 5) rfl (by decide) kc_1 q_901 q_903 qs_5_lookAtInnermost q_1 q_904 rfl (by decide +kernel) (by decide) (Nat.le_of_ble_eq_true rfl) (Nat.le_of_ble_eq_true rfl) (Nat.le_of_ble_eq_true rfl) rfl d5_untouched_1 (fun r1 m1 hr1 hpr1 => ?_)
  refine g_aload_n hK 0 rfl rfl d5_untouched_4 ?_
  refine g_getR hK zfin_5 (fa_5_13 kc_1) q_294 (r := 200) (by decide +kernel) d5_untouched_5 ?_
  refine g_getI hK zfin_4 (fa_4_3 kc_200) q_234 d5_untouched_8 (fun hf1 => ?_)
  refine g_callSco hK (mk := mkI) (rm := rmJ_bitCount) (cb := 0) (sb := 0) (As := [.int (zi (zI m1 200 3))]) (n := 1) (cJ_bitCount K.2.1 hK.2.2.2.2.2.2.2.2.1 Z (zI m1 200 3) m1 hf1) q_1010 q_549 q_21 q_550 rfl (by decide +kernel) (by decide) (Nat.le_of_ble_eq_true rfl) (Nat.le_of_ble_eq_true rfl) (Nat.le_of_ble_eq_true rfl) rfl d5_untouched_11 (fun r2 hr2 hpr2 => ?_)
  refine g_istore_n hK (lv2 := [(0, .ref (Z.2.2.1 + 1)), (1, .int (zi r2))]) [1, 0] rfl rfl (by decide) d5_untouched_14 ?_
  refine g_aload_n hK 0 rfl rfl d5_untouched_15 ?_
  refine g_getR hK zfin_5 (fa_5_13 kc_1) q_294 (r := 200) (by decide +kernel) d5_untouched_16 ?_
  refine g_getI hK zfin_4 (fa_4_3 kc_200) q_234 d5_untouched_19 (fun hf2 => ?_)
  refine g_aload_n hK 0 rfl rfl d5_untouched_22 ?_
  refine g_getR hK zfin_5 (fa_5_13 kc_1) q_294 (r := 200) (by decide +kernel) d5_untouched_23 ?_
  refine g_getI hK zfin_4 (fa_4_1 kc_200) q_231 d5_untouched_26 (fun hf3 => ?_)
  refine g_iconst hK d5_untouched_29 zkim1 ?_
  refine g_ixor hK d5_untouched_30 (fun v1 hv1 => ?_)
  refine g_iand hK d5_untouched_31 (fun v2 hv2 => ?_)
  refine g_callSco hK (mk := mkI) (rm := rmJ_bitCount) (cb := 0) (sb := 0) (As := [.int (zi v2)]) (n := 1) (cJ_bitCount K.2.1 hK.2.2.2.2.2.2.2.2.1 Z v2 m1 hv2) q_1010 q_549 q_21 q_550 rfl (by decide +kernel) (by decide) (Nat.le_of_ble_eq_true rfl) (Nat.le_of_ble_eq_true rfl) (Nat.le_of_ble_eq_true rfl) rfl d5_untouched_32 (fun r3 hr3 hpr3 => ?_)
  refine g_istore_n hK (lv2 := [(0, .ref (Z.2.2.1 + 1)), (1, .int (zi r2)), (2, .int (zi r3))]) [1, 2, 0] rfl rfl (by decide) d5_untouched_35 ?_
  refine g_iload_n hK 1 rfl rfl d5_untouched_36 ?_
  refine g_if_ne hK hpr2 (tgt := 44) (by decide) d5_untouched_37 (fun _ => ?_) (fun _ => ?_)
  · refine g_iload_n hK 2 rfl rfl d5_untouched_44 ?_
    refine g_i2f hK d5_untouched_45 ?_
    refine g_iload_n hK 1 rfl rfl d5_untouched_46 ?_
    refine g_i2f hK d5_untouched_47 ?_
    refine g_gd (fun hg0 => ?_)
    refine g_fdiv hK d5_untouched_48 hg0 ?_
    exact g_fret hK rfl rfl d5_untouched_49
  · refine g_fconst0 hK d5_untouched_40 ?_
    refine g_goto hK (tgt := 49) (by decide) d5_untouched_41 ?_
    exact g_fret hK rfl rfl d5_untouched_49
set_option maxRecDepth 20000 in
theorem c5_meanLength (l : Launch) (hst : l.stackTraces = false) (Z : zZ) (μ : zM) : ∀ x, f5_meanLength μ = some x → zCt l Z (zΩ Z) y5_meanLength (zws (.code y5_meanLength b5_meanLength 2 (some .double))) rm5_meanLength [.ref (Z.2.2.1 + 1)] μ (zeX mkD x) := by
  intro x h
  refine zCt.of (enc := (zeX mkD)) h (by decide) hst (Nat.le_of_ble_eq_true rfl) (fun K hK0 hex hl _ => ?_)
  subst hl
  have hcx : zOk K Z b5_meanLength RX5 2 (some .double) 8 148 1 6 ∧ ∀ x ∈ K.2.2.2.2.2.2.2.2.2.exceptionTable.toList, False := ⟨hK0, hex⟩
  have hK := hcx.1
  show zG K Z (zΩ Z) (zF K Z (zΩ Z) (zeX mkD)) 1 6 0 [(0, .ref (Z.2.2.1 + 1))] [] μ (f5_meanLength μ)
  unfold f5_meanLength
  refine g_aload_n hK 0 rfl rfl d5_meanLength_0 ?_
  refine g_callVcx (mk2 := mkD) hK (mk := mkV) (rm := rm5_lookAtInnermost) (cb := 0) (sb := 0) hex (As := []) (b := 1) (n := 0) (c5_lookAtInnermost K.2.1 hK.2.2.2.2.2.2.2.2.1 Z  μ ) rfl (ci := 5) rfl (by decide) kc_1 q_901 q_903 qs_5_lookAtInnermost q_1 q_904 rfl (by decide +kernel) (by decide) (Nat.le_of_ble_eq_true rfl) (Nat.le_of_ble_eq_true rfl) (Nat.le_of_ble_eq_true rfl) rfl d5_meanLength_1 (fun r1 m1 hr1 hpr1 => ?_)
  refine g_aload_n hK 0 rfl rfl d5_meanLength_4 ?_
  refine g_getR hK zfin_5 (fa_5_13 kc_1) q_294 (r := 200) (by decide +kernel) d5_meanLength_5 ?_
  refine g_getI hK zfin_4 (fa_4_3 kc_200) q_234 d5_meanLength_8 (fun hf1 => ?_)
  refine g_callSco hK (mk := mkI) (rm := rmJ_bitCount) (cb := 0) (sb := 0) (As := [.int (zi (zI m1 200 3))]) (n := 1) (cJ_bitCount K.2.1 hK.2.2.2.2.2.2.2.2.1 Z (zI m1 200 3) m1 hf1) q_1010 q_549 q_21 q_550 rfl (by decide +kernel) (by decide) (Nat.le_of_ble_eq_true rfl) (Nat.le_of_ble_eq_true rfl) (Nat.le_of_ble_eq_true rfl) rfl d5_meanLength_11 (fun r2 hr2 hpr2 => ?_)
  refine g_istore_n hK (lv2 := [(0, .ref (Z.2.2.1 + 1)), (1, .int (zi r2))]) [1, 0] rfl rfl (by decide) d5_meanLength_14 ?_
  refine g_iload_n hK 1 rfl rfl d5_meanLength_15 ?_
  refine g_if_ne hK hpr2 (tgt := 23) (by decide) d5_meanLength_16 (fun _ => ?_) (fun _ => ?_)
  · refine g_aload_n hK 0 rfl rfl d5_meanLength_23 ?_
    refine g_getR hK zfin_5 (fa_5_13 kc_1) q_294 (r := 200) (by decide +kernel) d5_meanLength_24 ?_
    refine g_callVco hK (mk := mkL) (rm := rm4_lengthOfLiveValues) (cb := 0) (sb := 0) (As := []) (b := 200) (n := 0) (c4_lengthOfLiveValues K.2.1 hK.2.2.2.2.2.2.2.2.1 Z  m1 ) rfl (ci := 4) rfl (by decide) kc_200 q_1018 q_1019 q_1020 q_6 q_1021 rfl (by decide +kernel) (by decide) (Nat.le_of_ble_eq_true rfl) (Nat.le_of_ble_eq_true rfl) (Nat.le_of_ble_eq_true rfl) rfl d5_meanLength_27 (fun r3 hr3 hpr3 => ?_)
    refine g_l2d hK d5_meanLength_30 ?_
    refine g_iload_n hK 1 rfl rfl d5_meanLength_31 ?_
    refine g_i2d hK d5_meanLength_32 ?_
    refine g_gd (fun hg0 => ?_)
    refine g_ddiv hK d5_meanLength_33 hg0 ?_
    exact g_dret hK rfl rfl d5_meanLength_34
  · refine g_dconst0 hK d5_meanLength_19 ?_
    refine g_goto hK (tgt := 34) (by decide) d5_meanLength_20 ?_
    exact g_dret hK rfl rfl d5_meanLength_34
set_option maxRecDepth 20000 in
theorem p5_requireBytesAtOnce_11 {K : zK} {Z : zZ} (hcx : zOk K Z b5_requireBytesAtOnce RX5 1 (none) 6 90 1 6 ∧ ∀ x ∈ K.2.2.2.2.2.2.2.2.2.exceptionTable.toList, False) (a1 : Int) (ha1 : zr a1) (μ : zM) : zG K Z (zΩ Z) (zF K Z (zΩ Z) (zeX mkV)) 1 6 11 [] [] μ (f5_requireBytesAtOnce_11 a1 μ) := by
  obtain ⟨hK, hex⟩ := id hcx
  unfold f5_requireBytesAtOnce_11
  exact g_throwW hK (i9 := 12) hex rfl (by decide) q_790 q_18 rfl th_5_123 th_5_123_g119 d5_requireBytesAtOnce_11 d5_requireBytesAtOnce_14 d5_requireBytesAtOnce_15 d5_requireBytesAtOnce_18 d5_requireBytesAtOnce_21 (by decide) (Nat.le_of_ble_eq_true rfl) (by decide) (by decide)
set_option maxRecDepth 20000 in
theorem c5_requireBytesAtOnce (l : Launch) (hst : l.stackTraces = false) (Z : zZ) (a1 : Int) (μ : zM) (ha1 : zr a1) : ∀ x, f5_requireBytesAtOnce a1 μ = some x → zCt l Z (zΩ Z) y5_requireBytesAtOnce (zws (.code y5_requireBytesAtOnce b5_requireBytesAtOnce 1 (none))) rm5_requireBytesAtOnce [.int (zi a1)] μ (zeX mkV x) := by
  intro x h
  refine zCt.of (enc := (zeX mkV)) h (by decide) hst (Nat.le_of_ble_eq_true rfl) (fun K hK0 hex hl _ => ?_)
  subst hl
  have hcx : zOk K Z b5_requireBytesAtOnce RX5 1 (none) 6 90 1 6 ∧ ∀ x ∈ K.2.2.2.2.2.2.2.2.2.exceptionTable.toList, False := ⟨hK0, hex⟩
  have hK := hcx.1
  show zG K Z (zΩ Z) (zF K Z (zΩ Z) (zeX mkV)) 1 6 0 [(0, .int (zi a1))] [] μ (f5_requireBytesAtOnce a1 μ)
  unfold f5_requireBytesAtOnce
  refine g_iload_n hK 0 rfl rfl d5_requireBytesAtOnce_0 ?_
  refine g_iconst hK d5_requireBytesAtOnce_1 zki1 ?_
  refine g_icmp_lt hK ha1 zc1 (tgt := 11) (by decide) d5_requireBytesAtOnce_2 (fun _ => ?_) (fun _ => ?_)
  · refine g_lv (lv2 := []) [] rfl ?_
    exact p5_requireBytesAtOnce_11 hcx a1 ha1   μ 
  · refine g_iload_n hK 0 rfl rfl d5_requireBytesAtOnce_5 ?_
    refine g_bipush hK d5_requireBytesAtOnce_6 zkb20 ?_
    refine g_icmp_le hK ha1 zc20 (tgt := 22) (by decide) d5_requireBytesAtOnce_8 (fun _ => ?_) (fun _ => ?_)
    · exact g_vret hK rfl rfl d5_requireBytesAtOnce_22
    · refine g_lv (lv2 := []) [] rfl ?_
      exact p5_requireBytesAtOnce_11 hcx a1 ha1   μ 
set_option maxRecDepth 20000 in
theorem c5_textIfTyped (l : Launch) (hst : l.stackTraces = false) (Z : zZ) (a1 : Int) (a2 : Int) (a3 : Int) (μ : zM) (ha1 : zr a1) (ha2 : zr a2) (ha3 : zr a3) : ∀ x, f5_textIfTyped a1 a2 a3 μ = some x → zCt l Z (zΩ Z) y5_textIfTyped (zws (.code y5_textIfTyped b5_textIfTyped 4 (some .long))) rm5_textIfTyped [.ref (Z.2.2.1 + 1), .int (zi a1), .int (zi a2), .int (zi a3)] μ (ze2 mkL x) := by
  intro x h
  refine zCt.of (enc := (ze2 mkL)) h (by decide) hst (Nat.le_of_ble_eq_true rfl) (fun K hK0 hex hl _ => ?_)
  subst hl
  have hcx : zOk K Z b5_textIfTyped RX5 4 (some .long) 4 107 0 0 ∧ ∀ x ∈ K.2.2.2.2.2.2.2.2.2.exceptionTable.toList, False := ⟨hK0, hex⟩
  have hK := hcx.1
  show zG K Z (zΩ Z) (zF K Z (zΩ Z) (ze2 mkL)) 0 0 0 [(0, .ref (Z.2.2.1 + 1)), (1, .int (zi a1)), (2, .int (zi a2)), (3, .int (zi a3))] [] μ (f5_textIfTyped a1 a2 a3 μ)
  unfold f5_textIfTyped
  refine g_aload_n hK 0 rfl rfl d5_textIfTyped_0 ?_
  refine g_iload_n hK 1 rfl rfl d5_textIfTyped_1 ?_
  refine g_callVcm hK (rm := rm5_takeSession) (cb := 0) (sb := 0) (As := [.int (zi a1)]) (b := 1) (n := 1) (c5_takeSession K.2.1 hK.2.2.2.2.2.2.2.2.1 Z a1 μ ha1) rfl (ci := 5) rfl (by decide) kc_1 q_517 q_519 qs_5_takeSession q_1 q_520 rfl (by decide +kernel) (by decide) (Nat.le_of_ble_eq_true rfl) (Nat.le_of_ble_eq_true rfl) (Nat.le_of_ble_eq_true rfl) rfl d5_textIfTyped_2 (fun m1 hm1 => ?_)
  refine g_aload_n hK 0 rfl rfl d5_textIfTyped_5 ?_
  refine g_getR hK zfin_5 (fa_5_13 kc_1) q_294 (r := 200) (by decide +kernel) d5_textIfTyped_6 ?_
  refine g_iload_n hK 2 rfl rfl d5_textIfTyped_9 ?_
  refine g_iload_n hK 3 rfl rfl d5_textIfTyped_10 ?_
  refine g_callVcm hK (rm := rm4_supposeTyped) (cb := 0) (sb := 0) (As := [.int (zi a2), .int (zi a3)]) (b := 200) (n := 2) (c4_supposeTyped K.2.1 hK.2.2.2.2.2.2.2.2.1 Z a2 a3 m1 ha2 ha3) rfl (ci := 4) rfl (by decide) kc_200 q_585 q_586 q_587 q_6 q_588 rfl (by decide +kernel) (by decide) (Nat.le_of_ble_eq_true rfl) (Nat.le_of_ble_eq_true rfl) (Nat.le_of_ble_eq_true rfl) rfl d5_textIfTyped_11 (fun m2 hm2 => ?_)
  refine g_aload_n hK 0 rfl rfl d5_textIfTyped_14 ?_
  refine g_getR hK zfin_5 (fa_5_13 kc_1) q_294 (r := 200) (by decide +kernel) d5_textIfTyped_15 ?_
  refine g_callVcm hK (rm := rm4_measure) (cb := 0) (sb := 0) (As := []) (b := 200) (n := 0) (c4_measure K.2.1 hK.2.2.2.2.2.2.2.2.1 Z  m2 ) rfl (ci := 4) rfl (by decide) kc_200 q_532 q_533 q_534 q_6 q_535 rfl (by decide +kernel) (by decide) (Nat.le_of_ble_eq_true rfl) (Nat.le_of_ble_eq_true rfl) (Nat.le_of_ble_eq_true rfl) rfl d5_textIfTyped_18 (fun m3 hm3 => ?_)
  refine g_aload_n hK 0 rfl rfl d5_textIfTyped_21 ?_
  refine g_getR hK zfin_5 (fa_5_13 kc_1) q_294 (r := 200) (by decide +kernel) d5_textIfTyped_22 ?_
  refine g_getL hK zfin_4 (fa_4_8 kc_200) q_244 d5_textIfTyped_25 (fun hf1 => ?_)
  exact g_lret hK hf1 rfl rfl d5_textIfTyped_28
set_option maxRecDepth 20000 in
theorem c5_lengthIf (l : Launch) (hst : l.stackTraces = false) (Z : zZ) (a1 : Int) (μ : zM) (ha1 : zr a1) : ∀ x, f5_lengthIf a1 μ = some x → zCt l Z (zΩ Z) y5_lengthIf (zws (.code y5_lengthIf b5_lengthIf 7 (some .int))) rm5_lengthIf [.ref (Z.2.2.1 + 1), .int (zi a1)] μ (zeX mkI x) := by
  intro x h
  refine zCt.of (enc := (zeX mkI)) h (by decide) hst (Nat.le_of_ble_eq_true rfl) (fun K hK0 hex hl _ => ?_)
  subst hl
  have hcx : zOk K Z b5_lengthIf RX5 7 (some .int) 7 130 2 12 ∧ ∀ x ∈ K.2.2.2.2.2.2.2.2.2.exceptionTable.toList, False := ⟨hK0, hex⟩
  have hK := hcx.1
  show zG K Z (zΩ Z) (zF K Z (zΩ Z) (zeX mkI)) 2 12 0 [(0, .ref (Z.2.2.1 + 1)), (1, .int (zi a1))] [] μ (f5_lengthIf a1 μ)
  unfold f5_lengthIf
  refine g_iload_n hK 1 rfl rfl d5_lengthIf_0 ?_
  refine g_callScx (mk2 := mkI) hK (mk := mkV) (rm := rm5_requireBytesAtOnce) (cb := 1) (sb := 6) hex (As := [.int (zi a1)]) (n := 1) (c5_requireBytesAtOnce K.2.1 hK.2.2.2.2.2.2.2.2.1 Z a1 μ ha1) q_1029 q_1030 q_1 q_1031 rfl (by decide +kernel) (by decide) (Nat.le_of_ble_eq_true rfl) (Nat.le_of_ble_eq_true rfl) (Nat.le_of_ble_eq_true rfl) rfl d5_lengthIf_1 (fun r1 m1 hr1 hpr1 => ?_)
  refine g_aload_n hK 0 rfl rfl d5_lengthIf_4 ?_
  refine g_callVcx (mk2 := mkI) hK (mk := mkI) (rm := rm5_requireSession) (cb := 0) (sb := 0) hex (As := []) (b := 1) (n := 0) (c5_requireSession K.2.1 hK.2.2.2.2.2.2.2.2.1 Z  m1 ) rfl (ci := 5) rfl (by decide) kc_1 q_905 q_907 qs_5_requireSession q_1 q_908 rfl (by decide +kernel) (by decide) (Nat.le_of_ble_eq_true rfl) (Nat.le_of_ble_eq_true rfl) (Nat.le_of_ble_eq_true rfl) rfl d5_lengthIf_5 (fun r2 m2 hr2 hpr2 => ?_)
  refine g_istore_n hK (lv2 := [(0, .ref (Z.2.2.1 + 1)), (1, .int (zi a1)), (2, .int (zi r2))]) [1, 2, 0] rfl rfl (by decide) d5_lengthIf_8 ?_
  refine g_aload_n hK 0 rfl rfl d5_lengthIf_9 ?_
  refine g_getR hK zfin_5 (fa_5_7 kc_1) q_288 (r := 193) (by decide +kernel) d5_lengthIf_10 ?_
  refine g_getR hK zfin_3 (fa_3_3 kc_193) q_190 (r := 195) (by decide +kernel) d5_lengthIf_13 ?_
  refine g_iload_n hK 2 rfl rfl d5_lengthIf_16 ?_
  refine g_iald hK kc_195 d5_lengthIf_17 (fun _ hl1 => ?_)
  refine g_ltI hl1 (fun v1 hv1 => ?_)
  refine g_istore_n hK (lv2 := [(0, .ref (Z.2.2.1 + 1)), (1, .int (zi a1)), (2, .int (zi r2)), (3, .int (zi v1))]) [1, 2, 3, 0] rfl rfl (by decide) d5_lengthIf_18 ?_
  refine g_aload_n hK 0 rfl rfl d5_lengthIf_19 ?_
  refine g_getR hK zfin_5 (fa_5_7 kc_1) q_288 (r := 193) (by decide +kernel) d5_lengthIf_20 ?_
  refine g_iload_n hK 2 rfl rfl d5_lengthIf_23 ?_
  refine g_iload_n hK 3 rfl rfl d5_lengthIf_24 ?_
  refine g_callVco hK (mk := mkI) (rm := rm3_typedLength) (cb := 0) (sb := 0) (As := [.int (zi r2), .int (zi v1)]) (b := 193) (n := 2) (c3_typedLength K.2.1 hK.2.2.2.2.2.2.2.2.1 Z 193 r2 v1 m2 kc_193 hpr2 hv1) rfl (ci := 3) rfl (by decide) kc_193 q_664 q_526 q_527 q_5 q_528 rfl (by decide +kernel) (by decide) (Nat.le_of_ble_eq_true rfl) (Nat.le_of_ble_eq_true rfl) (Nat.le_of_ble_eq_true rfl) rfl d5_lengthIf_25 (fun r3 hr3 hpr3 => ?_)
  refine g_iload_n hK 1 rfl rfl d5_lengthIf_28 ?_
  refine g_iadd hK d5_lengthIf_29 (fun v2 hv2 => ?_)
  refine g_istore hK (lv2 := [(0, .ref (Z.2.2.1 + 1)), (1, .int (zi a1)), (2, .int (zi r2)), (3, .int (zi v1)), (4, .int (zi v2))]) [1, 2, 3, 4, 0] rfl (by decide) d5_lengthIf_30 ?_
  refine g_iload hK 4 rfl d5_lengthIf_32 ?_
  refine g_bipush hK d5_lengthIf_34 zkb40 ?_
  refine g_icmp_le hK hv2 zc40 (tgt := 41) (by decide) d5_lengthIf_36 (fun _ => ?_) (fun _ => ?_)
  · refine g_aload_n hK 0 rfl rfl d5_lengthIf_41 ?_
    refine g_iload_n hK 2 rfl rfl d5_lengthIf_42 ?_
    refine g_iload_n hK 3 rfl rfl d5_lengthIf_43 ?_
    refine g_iload hK 4 rfl d5_lengthIf_44 ?_
    refine g_callVcl hK (mk := mkL) (rm := rm5_textIfTyped) (cb := 0) (sb := 0) (As := [.int (zi r2), .int (zi v1), .int (zi v2)]) (b := 1) (n := 3) (c5_textIfTyped K.2.1 hK.2.2.2.2.2.2.2.2.1 Z r2 v1 v2 m2 hpr2 hv1 hv2) rfl (ci := 5) rfl (by decide) kc_1 q_581 q_583 qs_5_textIfTyped q_1 q_584 rfl (by decide +kernel) (by decide) (Nat.le_of_ble_eq_true rfl) (Nat.le_of_ble_eq_true rfl) (Nat.le_of_ble_eq_true rfl) rfl d5_lengthIf_46 (fun r4 m3 hr4 hpr4 => ?_)
    refine g_lstore hK (lv2 := [(0, .ref (Z.2.2.1 + 1)), (1, .int (zi a1)), (2, .int (zi r2)), (3, .int (zi v1)), (4, .int (zi v2)), (5, .long (zl r4))]) [1, 2, 3, 4, 5, 0] rfl (by decide) d5_lengthIf_49 ?_
    refine g_lload hK 5 rfl d5_lengthIf_51 ?_
    refine g_ldc2 hK (v := 400) q_589 d5_lengthIf_53 ?_
    refine g_lcmp hK d5_lengthIf_56 hpr4 zcL400 (fun v3 hv3 => ?_)
    refine g_if_le hK hv3 (tgt := 64) (by decide) d5_lengthIf_57 (fun _ => ?_) (fun _ => ?_)
    · refine g_lload hK 5 rfl d5_lengthIf_64 ?_
      refine g_l2i hK d5_lengthIf_66 (fun v4 hv4 => ?_)
      exact g_iret hK hv4 rfl rfl d5_lengthIf_67
    · refine g_iconst hK d5_lengthIf_60 zkim1 ?_
      refine g_goto hK (tgt := 67) (by decide) d5_lengthIf_61 ?_
      exact g_iret hK zcm1 rfl rfl d5_lengthIf_67
  · refine g_iconst hK d5_lengthIf_39 zkim1 ?_
    exact g_iret hK zcm1 rfl rfl d5_lengthIf_40
set_option maxRecDepth 20000 in
theorem c5_wouldHide (l : Launch) (hst : l.stackTraces = false) (Z : zZ) (a1 : Int) (μ : zM) (ha1 : zr a1) : ∀ x, f5_wouldHide a1 μ = some x → zCt l Z (zΩ Z) y5_wouldHide (zws (.code y5_wouldHide b5_wouldHide 3 (some .int))) rm5_wouldHide [.ref (Z.2.2.1 + 1), .int (zi a1)] μ (zeX mkI x) := by
  intro x h
  refine zCt.of (enc := (zeX mkI)) h (by decide) hst (Nat.le_of_ble_eq_true rfl) (fun K hK0 hex hl _ => ?_)
  subst hl
  have hcx : zOk K Z b5_wouldHide RX5 3 (some .int) 8 148 2 12 ∧ ∀ x ∈ K.2.2.2.2.2.2.2.2.2.exceptionTable.toList, False := ⟨hK0, hex⟩
  have hK := hcx.1
  show zG K Z (zΩ Z) (zF K Z (zΩ Z) (zeX mkI)) 2 12 0 [(0, .ref (Z.2.2.1 + 1)), (1, .int (zi a1))] [] μ (f5_wouldHide a1 μ)
  unfold f5_wouldHide
  refine g_iload_n hK 1 rfl rfl d5_wouldHide_0 ?_
  refine g_callScx (mk2 := mkI) hK (mk := mkV) (rm := rm5_requireField) (cb := 1) (sb := 6) hex (As := [.int (zi a1)]) (n := 1) (c5_requireField K.2.1 hK.2.2.2.2.2.2.2.2.1 Z a1 μ ha1) q_863 q_864 q_1 q_865 rfl (by decide +kernel) (by decide) (Nat.le_of_ble_eq_true rfl) (Nat.le_of_ble_eq_true rfl) (Nat.le_of_ble_eq_true rfl) rfl d5_wouldHide_1 (fun r1 m1 hr1 hpr1 => ?_)
  refine g_aload_n hK 0 rfl rfl d5_wouldHide_4 ?_
  refine g_callVcx (mk2 := mkI) hK (mk := mkV) (rm := rm5_lookAtInnermost) (cb := 0) (sb := 0) hex (As := []) (b := 1) (n := 0) (c5_lookAtInnermost K.2.1 hK.2.2.2.2.2.2.2.2.1 Z  m1 ) rfl (ci := 5) rfl (by decide) kc_1 q_901 q_903 qs_5_lookAtInnermost q_1 q_904 rfl (by decide +kernel) (by decide) (Nat.le_of_ble_eq_true rfl) (Nat.le_of_ble_eq_true rfl) (Nat.le_of_ble_eq_true rfl) rfl d5_wouldHide_5 (fun r2 m2 hr2 hpr2 => ?_)
  refine g_aload_n hK 0 rfl rfl d5_wouldHide_8 ?_
  refine g_getR hK zfin_5 (fa_5_13 kc_1) q_294 (r := 200) (by decide +kernel) d5_wouldHide_9 ?_
  refine g_iload_n hK 1 rfl rfl d5_wouldHide_12 ?_
  refine g_callVco hK (mk := mkZ) (rm := rm4_isTyped) (cb := 0) (sb := 0) (As := [.int (zi a1)]) (b := 200) (n := 1) (c4_isTyped K.2.1 hK.2.2.2.2.2.2.2.2.1 Z a1 m2 ha1) rfl (ci := 4) rfl (by decide) kc_200 q_911 q_545 q_546 q_6 q_547 rfl (by decide +kernel) (by decide) (Nat.le_of_ble_eq_true rfl) (Nat.le_of_ble_eq_true rfl) (Nat.le_of_ble_eq_true rfl) rfl d5_wouldHide_13 (fun r3 hr3 hpr3 => ?_)
  refine g_if_eq hK (zb_r r3) (tgt := 21) (by decide) d5_wouldHide_16 (fun _ => ?_) (fun _ => ?_)
  · refine g_aload_n hK 0 rfl rfl d5_wouldHide_21 ?_
    refine g_getR hK zfin_5 (fa_5_13 kc_1) q_294 (r := 200) (by decide +kernel) d5_wouldHide_22 ?_
    refine g_getI hK zfin_4 (fa_4_3 kc_200) q_234 d5_wouldHide_25 (fun hf1 => ?_)
    refine g_ltI hf1 (fun v1 hv1 => ?_)
    refine g_istore_n hK (lv2 := [(0, .ref (Z.2.2.1 + 1)), (1, .int (zi a1)), (2, .int (zi v1))]) [1, 2, 0] rfl rfl (by decide) d5_wouldHide_28 ?_
    refine g_aload_n hK 0 rfl rfl d5_wouldHide_29 ?_
    refine g_getR hK zfin_5 (fa_5_13 kc_1) q_294 (r := 200) (by decide +kernel) d5_wouldHide_30 ?_
    refine g_iload_n hK 1 rfl rfl d5_wouldHide_33 ?_
    refine g_iconst hK d5_wouldHide_34 zki0 ?_
    refine g_callVcm hK (rm := rm4_supposeTyped) (cb := 0) (sb := 0) (As := [.int (zi a1), .int (zi 0)]) (b := 200) (n := 2) (c4_supposeTyped K.2.1 hK.2.2.2.2.2.2.2.2.1 Z a1 0 m2 ha1 zc0) rfl (ci := 4) rfl (by decide) kc_200 q_585 q_586 q_587 q_6 q_588 rfl (by decide +kernel) (by decide) (Nat.le_of_ble_eq_true rfl) (Nat.le_of_ble_eq_true rfl) (Nat.le_of_ble_eq_true rfl) rfl d5_wouldHide_35 (fun m3 hm3 => ?_)
    refine g_aload_n hK 0 rfl rfl d5_wouldHide_38 ?_
    refine g_getR hK zfin_5 (fa_5_13 kc_1) q_294 (r := 200) (by decide +kernel) d5_wouldHide_39 ?_
    refine g_callVcm hK (rm := rm4_measure) (cb := 0) (sb := 0) (As := []) (b := 200) (n := 0) (c4_measure K.2.1 hK.2.2.2.2.2.2.2.2.1 Z  m3 ) rfl (ci := 4) rfl (by decide) kc_200 q_532 q_533 q_534 q_6 q_535 rfl (by decide +kernel) (by decide) (Nat.le_of_ble_eq_true rfl) (Nat.le_of_ble_eq_true rfl) (Nat.le_of_ble_eq_true rfl) rfl d5_wouldHide_42 (fun m4 hm4 => ?_)
    refine g_iload_n hK 2 rfl rfl d5_wouldHide_45 ?_
    refine g_aload_n hK 0 rfl rfl d5_wouldHide_46 ?_
    refine g_getR hK zfin_5 (fa_5_13 kc_1) q_294 (r := 200) (by decide +kernel) d5_wouldHide_47 ?_
    refine g_getI hK zfin_4 (fa_4_3 kc_200) q_234 d5_wouldHide_50 (fun hf2 => ?_)
    refine g_iconst hK d5_wouldHide_53 zkim1 ?_
    refine g_ixor hK d5_wouldHide_54 (fun v2 hv2 => ?_)
    refine g_iand hK d5_wouldHide_55 (fun v3 hv3 => ?_)
    exact g_iret hK hv3 rfl rfl d5_wouldHide_56
  · refine g_iconst hK d5_wouldHide_19 zki0 ?_
    exact g_iret hK zc0 rfl rfl d5_wouldHide_20
set_option maxRecDepth 20000 in
theorem c5_lengthOf (l : Launch) (hst : l.stackTraces = false) (Z : zZ) (a1 : Int) (μ : zM) (ha1 : zr a1) : ∀ x, f5_lengthOf a1 μ = some x → zCt l Z (zΩ Z) y5_lengthOf (zws (.code y5_lengthOf b5_lengthOf 2 (some .int))) rm5_lengthOf [.ref (Z.2.2.1 + 1), .int (zi a1)] μ (zeX mkI x) := by
  intro x h
  refine zCt.of (enc := (zeX mkI)) h (by decide) hst (Nat.le_of_ble_eq_true rfl) (fun K hK0 hex hl _ => ?_)
  subst hl
  have hcx : zOk K Z b5_lengthOf RX5 2 (some .int) 7 111 1 6 ∧ ∀ x ∈ K.2.2.2.2.2.2.2.2.2.exceptionTable.toList, False := ⟨hK0, hex⟩
  have hK := hcx.1
  show zG K Z (zΩ Z) (zF K Z (zΩ Z) (zeX mkI)) 1 6 0 [(0, .ref (Z.2.2.1 + 1)), (1, .int (zi a1))] [] μ (f5_lengthOf a1 μ)
  unfold f5_lengthOf
  refine g_aload_n hK 0 rfl rfl d5_lengthOf_0 ?_
  refine g_getR hK zfin_5 (fa_5_13 kc_1) q_294 (r := 200) (by decide +kernel) d5_lengthOf_1 ?_
  refine g_aload_n hK 0 rfl rfl d5_lengthOf_4 ?_
  refine g_iload_n hK 1 rfl rfl d5_lengthOf_5 ?_
  refine g_callVcx (mk2 := mkI) hK (mk := (mkR Z.2.2.1 2)) (rm := rm5_requireSnippet) (cb := 0) (sb := 0) hex (As := [.int (zi a1)]) (b := 1) (n := 1) (c5_requireSnippet K.2.1 hK.2.2.2.2.2.2.2.2.1 Z a1 μ ha1) rfl (ci := 5) rfl (by decide) kc_1 q_814 q_816 qs_5_requireSnippet q_1 q_817 rfl (by decide +kernel) (by decide) (Nat.le_of_ble_eq_true rfl) (Nat.le_of_ble_eq_true rfl) (Nat.le_of_ble_eq_true rfl) rfl d5_lengthOf_6 (fun r1 m1 hr1 hpr1 => ?_)
  refine g_callVcm hK (rm := rm4_takeUntouched) (cb := 0) (sb := 0) (As := [.ref (Z.2.2.1 + r1)]) (b := 200) (n := 1) (c4_takeUntouched K.2.1 hK.2.2.2.2.2.2.2.2.1 Z r1 m1 hpr1) rfl (ci := 4) rfl (by decide) kc_200 q_1047 q_1048 q_1049 q_6 q_1050 rfl (by decide +kernel) (by decide) (Nat.le_of_ble_eq_true rfl) (Nat.le_of_ble_eq_true rfl) (Nat.le_of_ble_eq_true rfl) rfl d5_lengthOf_9 (fun m2 hm2 => ?_)
  refine g_aload_n hK 0 rfl rfl d5_lengthOf_12 ?_
  refine g_getR hK zfin_5 (fa_5_13 kc_1) q_294 (r := 200) (by decide +kernel) d5_lengthOf_13 ?_
  refine g_callVcm hK (rm := rm4_measure) (cb := 0) (sb := 0) (As := []) (b := 200) (n := 0) (c4_measure K.2.1 hK.2.2.2.2.2.2.2.2.1 Z  m2 ) rfl (ci := 4) rfl (by decide) kc_200 q_532 q_533 q_534 q_6 q_535 rfl (by decide +kernel) (by decide) (Nat.le_of_ble_eq_true rfl) (Nat.le_of_ble_eq_true rfl) (Nat.le_of_ble_eq_true rfl) rfl d5_lengthOf_16 (fun m3 hm3 => ?_)
  refine g_aload_n hK 0 rfl rfl d5_lengthOf_19 ?_
  refine g_getR hK zfin_5 (fa_5_13 kc_1) q_294 (r := 200) (by decide +kernel) d5_lengthOf_20 ?_
  refine g_getL hK zfin_4 (fa_4_8 kc_200) q_244 d5_lengthOf_23 (fun hf1 => ?_)
  refine g_ldc2 hK (v := 100000) q_1051 d5_lengthOf_26 ?_
  refine g_lmin hK hf1 zcL100000 q_1052 q_563 q_13 q_564 (by decide) (Nat.le_of_ble_eq_true rfl) d5_lengthOf_29 (fun w1 hw1 => ?_)
  refine g_l2i hK d5_lengthOf_32 (fun v1 hv1 => ?_)
  exact g_iret hK hv1 rfl rfl d5_lengthOf_33
set_option maxRecDepth 20000 in
theorem c5_refuse (l : Launch) (hst : l.stackTraces = false) (Z : zZ) (a1 : Int) (μ : zM) (ha1 : zr a1) : ∀ x, f5_refuse a1 μ = some x → zCt l Z (zΩ Z) y5_refuse (zws (.code y5_refuse b5_refuse 2 (some .int))) rm5_refuse [.ref (Z.2.2.1 + 1), .int (zi a1)] μ (ze2 mkI x) := by
  intro x h
  refine zCt.of (enc := (ze2 mkI)) h (by decide) hst (Nat.le_of_ble_eq_true rfl) (fun K hK0 hex hl _ => ?_)
  subst hl
  have hcx : zOk K Z b5_refuse RX5 2 (some .int) 0 8 0 0 ∧ ∀ x ∈ K.2.2.2.2.2.2.2.2.2.exceptionTable.toList, False := ⟨hK0, hex⟩
  have hK := hcx.1
  show zG K Z (zΩ Z) (zF K Z (zΩ Z) (ze2 mkI)) 0 0 0 [(0, .ref (Z.2.2.1 + 1)), (1, .int (zi a1))] [] μ (f5_refuse a1 μ)
  unfold f5_refuse
  refine g_aload_n hK 0 rfl rfl d5_refuse_0 ?_
  refine g_getR hK zfin_5 (fa_5_6 kc_1) q_287 (r := 3) (by decide +kernel) d5_refuse_1 ?_
  refine g_iload_n hK 1 rfl rfl d5_refuse_4 ?_
  refine g_dup2 hK d5_refuse_5 rfl rfl ?_
  refine g_iald hK kc_3 d5_refuse_6 (fun _ hl1 => ?_)
  refine g_iconst hK d5_refuse_7 zki1 ?_
  refine g_iadd hK d5_refuse_8 (fun v1 hv1 => ?_)
  refine g_iast hK hv1 kc_3 d5_refuse_9 (fun _ => ?_)
  refine g_ltM (fun m1 => ?_)
  refine g_iload_n hK 1 rfl rfl d5_refuse_10 ?_
  refine g_ineg hK d5_refuse_11 (fun v2 hv2 => ?_)
  exact g_iret hK hv2 rfl rfl d5_refuse_12
set_option maxRecDepth 20000 in
theorem c5_reasonNotToEnd (l : Launch) (hst : l.stackTraces = false) (Z : zZ) (a1 : Int) (a2 : Int) (μ : zM) (ha1 : zr a1) (ha2 : zr64 a2) : ∀ x, f5_reasonNotToEnd a1 a2 μ = some x → zCt l Z (zΩ Z) y5_reasonNotToEnd (zws (.code y5_reasonNotToEnd b5_reasonNotToEnd 8 (some .int))) rm5_reasonNotToEnd [.ref (Z.2.2.1 + 1), .int (zi a1), .long (zl a2)] μ (ze2 mkI x) := by
  intro x h
  refine zCt.of (enc := (ze2 mkI)) h (by decide) hst (Nat.le_of_ble_eq_true rfl) (fun K hK0 hex hl _ => ?_)
  subst hl
  have hcx : zOk K Z b5_reasonNotToEnd RX5 8 (some .int) 5 130 0 0 ∧ ∀ x ∈ K.2.2.2.2.2.2.2.2.2.exceptionTable.toList, False := ⟨hK0, hex⟩
  have hK := hcx.1
  show zG K Z (zΩ Z) (zF K Z (zΩ Z) (ze2 mkI)) 0 0 0 [(0, .ref (Z.2.2.1 + 1)), (1, .int (zi a1)), (2, .long (zl a2))] [] μ (f5_reasonNotToEnd a1 a2 μ)
  unfold f5_reasonNotToEnd
  refine g_iload_n hK 1 rfl rfl d5_reasonNotToEnd_0 ?_
  refine g_if_ne hK ha1 (tgt := 28) (by decide) d5_reasonNotToEnd_1 (fun _ => ?_) (fun _ => ?_)
  · refine g_iload_n hK 1 rfl rfl d5_reasonNotToEnd_28 ?_
    refine g_iconst hK d5_reasonNotToEnd_29 zki1 ?_
    refine g_isub hK d5_reasonNotToEnd_30 (fun v1 hv1 => ?_)
    refine g_istore hK (lv2 := [(0, .ref (Z.2.2.1 + 1)), (1, .int (zi a1)), (2, .long (zl a2)), (4, .int (zi v1))]) [1, 2, 3, 0] rfl (by decide) d5_reasonNotToEnd_31 ?_
    refine g_aload_n hK 0 rfl rfl d5_reasonNotToEnd_33 ?_
    refine g_getR hK zfin_5 (fa_5_7 kc_1) q_288 (r := 193) (by decide +kernel) d5_reasonNotToEnd_34 ?_
    refine g_getR hK zfin_3 (fa_3_3 kc_193) q_190 (r := 195) (by decide +kernel) d5_reasonNotToEnd_37 ?_
    refine g_iload hK 3 rfl d5_reasonNotToEnd_40 ?_
    refine g_iald hK kc_195 d5_reasonNotToEnd_42 (fun _ hl1 => ?_)
    refine g_ltI hl1 (fun v2 hv2 => ?_)
    refine g_istore hK (lv2 := [(0, .ref (Z.2.2.1 + 1)), (1, .int (zi a1)), (2, .long (zl a2)), (4, .int (zi v1)), (5, .int (zi v2))]) [1, 2, 3, 4, 0] rfl (by decide) d5_reasonNotToEnd_43 ?_
    refine g_aload_n hK 0 rfl rfl d5_reasonNotToEnd_45 ?_
    refine g_getR hK zfin_5 (fa_5_7 kc_1) q_288 (r := 193) (by decide +kernel) d5_reasonNotToEnd_46 ?_
    refine g_iload hK 3 rfl d5_reasonNotToEnd_49 ?_
    refine g_iload hK 4 rfl d5_reasonNotToEnd_51 ?_
    refine g_callVco hK (mk := mkI) (rm := rm3_typedLength) (cb := 0) (sb := 0) (As := [.int (zi v1), .int (zi v2)]) (b := 193) (n := 2) (c3_typedLength K.2.1 hK.2.2.2.2.2.2.2.2.1 Z 193 v1 v2 μ kc_193 hv1 hv2) rfl (ci := 3) rfl (by decide) kc_193 q_664 q_526 q_527 q_5 q_528 rfl (by decide +kernel) (by decide) (Nat.le_of_ble_eq_true rfl) (Nat.le_of_ble_eq_true rfl) (Nat.le_of_ble_eq_true rfl) rfl d5_reasonNotToEnd_53 (fun r1 hr1 hpr1 => ?_)
    refine g_i2l hK d5_reasonNotToEnd_56 hpr1 ?_
    refine g_lload_n hK 2 rfl rfl d5_reasonNotToEnd_57 ?_
    refine g_ladd hK d5_reasonNotToEnd_58 (fun w1 hw1 => ?_)
    refine g_lstore hK (lv2 := [(0, .ref (Z.2.2.1 + 1)), (1, .int (zi a1)), (2, .long (zl a2)), (4, .int (zi v1)), (5, .int (zi v2)), (6, .long (zl w1))]) [1, 2, 3, 4, 5, 0] rfl (by decide) d5_reasonNotToEnd_59 ?_
    refine g_lload hK 5 rfl d5_reasonNotToEnd_61 ?_
    refine g_ldc2 hK (v := 40) q_665 d5_reasonNotToEnd_63 ?_
    refine g_lcmp hK d5_reasonNotToEnd_66 hw1 zcL40 (fun v3 hv3 => ?_)
    refine g_if_le hK hv3 (tgt := 72) (by decide) d5_reasonNotToEnd_67 (fun _ => ?_) (fun _ => ?_)
    · refine g_aload_n hK 0 rfl rfl d5_reasonNotToEnd_72 ?_
      refine g_iload hK 3 rfl d5_reasonNotToEnd_73 ?_
      refine g_iload hK 4 rfl d5_reasonNotToEnd_75 ?_
      refine g_lload hK 5 rfl d5_reasonNotToEnd_77 ?_
      refine g_l2i hK d5_reasonNotToEnd_79 (fun v4 hv4 => ?_)
      refine g_callVcl hK (mk := mkL) (rm := rm5_textIfTyped) (cb := 0) (sb := 0) (As := [.int (zi v1), .int (zi v2), .int (zi v4)]) (b := 1) (n := 3) (c5_textIfTyped K.2.1 hK.2.2.2.2.2.2.2.2.1 Z v1 v2 v4 μ hv1 hv2 hv4) rfl (ci := 5) rfl (by decide) kc_1 q_581 q_583 qs_5_textIfTyped q_1 q_584 rfl (by decide +kernel) (by decide) (Nat.le_of_ble_eq_true rfl) (Nat.le_of_ble_eq_true rfl) (Nat.le_of_ble_eq_true rfl) rfl d5_reasonNotToEnd_80 (fun r2 m1 hr2 hpr2 => ?_)
      refine g_ldc2 hK (v := 400) q_589 d5_reasonNotToEnd_83 ?_
      refine g_lcmp hK d5_reasonNotToEnd_86 hpr2 zcL400 (fun v5 hv5 => ?_)
      refine g_if_le hK hv5 (tgt := 94) (by decide) d5_reasonNotToEnd_87 (fun _ => ?_) (fun _ => ?_)
      · refine g_iconst hK d5_reasonNotToEnd_94 zki0 ?_
        exact g_iret hK zc0 rfl rfl d5_reasonNotToEnd_95
      · refine g_iconst hK d5_reasonNotToEnd_90 zki3 ?_
        refine g_goto hK (tgt := 95) (by decide) d5_reasonNotToEnd_91 ?_
        exact g_iret hK zc3 rfl rfl d5_reasonNotToEnd_95
    · refine g_iconst hK d5_reasonNotToEnd_70 zki4 ?_
      exact g_iret hK zc4 rfl rfl d5_reasonNotToEnd_71
  · refine g_aload_n hK 0 rfl rfl d5_reasonNotToEnd_4 ?_
    refine g_getR hK zfin_5 (fa_5_7 kc_1) q_288 (r := 193) (by decide +kernel) d5_reasonNotToEnd_5 ?_
    refine g_getI hK zfin_3 (fa_3_8 kc_193) q_200 d5_reasonNotToEnd_8 (fun hf1 => ?_)
    refine g_i2l hK d5_reasonNotToEnd_11 hf1 ?_
    refine g_lload_n hK 2 rfl rfl d5_reasonNotToEnd_12 ?_
    refine g_ladd hK d5_reasonNotToEnd_13 (fun w2 hw2 => ?_)
    refine g_ldc2 hK (v := 600) q_663 d5_reasonNotToEnd_14 ?_
    refine g_lcmp hK d5_reasonNotToEnd_17 hw2 zcL600 (fun v6 hv6 => ?_)
    refine g_if_le hK hv6 (tgt := 26) (by decide) d5_reasonNotToEnd_18 (fun _ => ?_) (fun _ => ?_)
    · refine g_iconst hK d5_reasonNotToEnd_26 zki0 ?_
      exact g_iret hK zc0 rfl rfl d5_reasonNotToEnd_27
    · refine g_bipush hK d5_reasonNotToEnd_21 zkb9 ?_
      refine g_goto hK (tgt := 27) (by decide) d5_reasonNotToEnd_23 ?_
      exact g_iret hK zc9 rfl rfl d5_reasonNotToEnd_27
set_option maxRecDepth 20000 in
theorem c5_keepForUndo (l : Launch) (hst : l.stackTraces = false) (Z : zZ) (μ : zM) : ∀ x, f5_keepForUndo μ = some x → zCt l Z (zΩ Z) y5_keepForUndo (zws (.code y5_keepForUndo b5_keepForUndo 1 (none))) rm5_keepForUndo [.ref (Z.2.2.1 + 1)] μ (zeM x) := by
  intro x h
  refine zCt.of (enc := zeM) h (by decide) hst (Nat.le_of_ble_eq_true rfl) (fun K hK0 hex hl _ => ?_)
  subst hl
  have hcx : zOk K Z b5_keepForUndo RX5 1 (none) 2 81 0 0 ∧ ∀ x ∈ K.2.2.2.2.2.2.2.2.2.exceptionTable.toList, False := ⟨hK0, hex⟩
  have hK := hcx.1
  show zG K Z (zΩ Z) (zF K Z (zΩ Z) zeM) 0 0 0 [(0, .ref (Z.2.2.1 + 1))] [] μ (f5_keepForUndo μ)
  unfold f5_keepForUndo
  refine g_aload_n hK 0 rfl rfl d5_keepForUndo_0 ?_
  refine g_getR hK zfin_5 (fa_5_6 kc_1) q_287 (r := 3) (by decide +kernel) d5_keepForUndo_1 ?_
  refine g_iconst hK d5_keepForUndo_4 zki0 ?_
  refine g_dup2 hK d5_keepForUndo_5 rfl rfl ?_
  refine g_iald hK kc_3 d5_keepForUndo_6 (fun _ hl1 => ?_)
  refine g_iconst hK d5_keepForUndo_7 zki1 ?_
  refine g_iadd hK d5_keepForUndo_8 (fun v1 hv1 => ?_)
  refine g_iast hK hv1 kc_3 d5_keepForUndo_9 (fun _ => ?_)
  refine g_ltM (fun m1 => ?_)
  refine g_aload_n hK 0 rfl rfl d5_keepForUndo_10 ?_
  refine g_getR hK zfin_5 (fa_5_8 kc_1) q_289 (r := 4) (by decide +kernel) d5_keepForUndo_11 ?_
  refine g_aload_n hK 0 rfl rfl d5_keepForUndo_14 ?_
  refine g_getI hK zfin_5 (fa_5_9 kc_1) q_290 d5_keepForUndo_15 (fun hf1 => ?_)
  refine g_aald104 hK (g := fun i => (222 + 7 * i)) kc_4 zel_4_el d5_keepForUndo_18 (fun hz1 => ?_)
  have he1 : zkd (222 + 7 * (zx (zI m1 1 9))) = 3 := zel_4_ek _ (zx_lt hz1)
  refine g_aload_n hK 0 rfl rfl d5_keepForUndo_19 ?_
  refine g_getR hK zfin_5 (fa_5_7 kc_1) q_288 (r := 193) (by decide +kernel) d5_keepForUndo_20 ?_
  refine g_callVcm hK (rm := rm3_copyFrom) (cb := 0) (sb := 0) (As := [.ref (Z.2.2.1 + 193)]) (b := (222 + 7 * (zx (zI m1 1 9)))) (n := 1) (c3_copyFrom K.2.1 hK.2.2.2.2.2.2.2.2.1 Z (222 + 7 * (zx (zI m1 1 9))) 193 m1 he1 kc_193) rfl (ci := 3) rfl (by decide) he1 q_594 q_595 q_596 q_5 q_597 rfl (by decide +kernel) (by decide) (Nat.le_of_ble_eq_true rfl) (Nat.le_of_ble_eq_true rfl) (Nat.le_of_ble_eq_true rfl) rfl d5_keepForUndo_23 (fun m2 hm2 => ?_)
  refine g_aload_n hK 0 rfl rfl d5_keepForUndo_26 ?_
  refine g_aload_n hK 0 rfl rfl d5_keepForUndo_27 ?_
  refine g_getI hK zfin_5 (fa_5_9 kc_1) q_290 d5_keepForUndo_28 (fun hf2 => ?_)
  refine g_iconst hK d5_keepForUndo_31 zki1 ?_
  refine g_iadd hK d5_keepForUndo_32 (fun v2 hv2 => ?_)
  refine g_bipush hK d5_keepForUndo_33 zkb8 ?_
  refine g_irem hK d5_keepForUndo_35 zc8 (by decide) (fun v3 hv3 => ?_)
  refine g_putI hK zfin_5 (fa_5_9 kc_1) q_290 hv3 rfl (tyX5_ok 9 (by decide)) tyX5 tyX5_ok nmX5 d5_keepForUndo_36 ?_
  refine g_ltM (fun m3 => ?_)
  refine g_aload_n hK 0 rfl rfl d5_keepForUndo_39 ?_
  refine g_aload_n hK 0 rfl rfl d5_keepForUndo_40 ?_
  refine g_getI hK zfin_5 (fa_5_10 kc_1) q_291 d5_keepForUndo_41 (fun hf3 => ?_)
  refine g_iconst hK d5_keepForUndo_44 zki1 ?_
  refine g_iadd hK d5_keepForUndo_45 (fun v4 hv4 => ?_)
  refine g_bipush hK d5_keepForUndo_46 zkb8 ?_
  refine g_mmin hK hv4 zc8 q_599 q_333 q_13 q_334 (by decide) (Nat.le_of_ble_eq_true rfl) d5_keepForUndo_48 (fun v5 hv5 => ?_)
  refine g_putI hK zfin_5 (fa_5_10 kc_1) q_291 hv5 rfl (tyX5_ok 10 (by decide)) tyX5 tyX5_ok nmX5 d5_keepForUndo_51 ?_
  refine g_ltM (fun m4 => ?_)
  exact g_vret hK rfl rfl d5_keepForUndo_54
set_option maxRecDepth 20000 in
theorem p5_endSession_76 {K : zK} {Z : zZ} (hcx : zOk K Z b5_endSession RX5 3 (none) 5 130 0 0 ∧ ∀ x ∈ K.2.2.2.2.2.2.2.2.2.exceptionTable.toList, False) (x1 : Int) (μ : zM) (hx1 : zr x1) : zG K Z (zΩ Z) (zF K Z (zΩ Z) zeM) 0 0 76 [(0, .ref (Z.2.2.1 + 1)), (1, .int (zi x1))] [] μ (f5_endSession_76 x1 μ) := by
  obtain ⟨hK, hex⟩ := id hcx
  unfold f5_endSession_76
  refine g_aload_n hK 0 rfl rfl d5_endSession_76 ?_
  refine g_getR hK zfin_5 (fa_5_7 kc_1) q_288 (r := 193) (by decide +kernel) d5_endSession_77 ?_
  refine g_iload_n hK 1 rfl rfl d5_endSession_80 ?_
  refine g_putI hK zfin_3 (fa_3_1 kc_193) q_186 hx1 rfl (tyX3_ok 1 (by decide)) tyX3 tyX3_ok nmX3 d5_endSession_81 ?_
  refine g_ltM (fun m5 => ?_)
  exact g_vret hK rfl rfl d5_endSession_84
set_option maxRecDepth 20000 in
theorem c5_endSession (l : Launch) (hst : l.stackTraces = false) (Z : zZ) (μ : zM) : ∀ x, f5_endSession μ = some x → zCt l Z (zΩ Z) y5_endSession (zws (.code y5_endSession b5_endSession 3 (none))) rm5_endSession [.ref (Z.2.2.1 + 1)] μ (zeM x) := by
  intro x h
  refine zCt.of (enc := zeM) h (by decide) hst (Nat.le_of_ble_eq_true rfl) (fun K hK0 hex hl _ => ?_)
  subst hl
  have hcx : zOk K Z b5_endSession RX5 3 (none) 5 130 0 0 ∧ ∀ x ∈ K.2.2.2.2.2.2.2.2.2.exceptionTable.toList, False := ⟨hK0, hex⟩
  have hK := hcx.1
  show zG K Z (zΩ Z) (zF K Z (zΩ Z) zeM) 0 0 0 [(0, .ref (Z.2.2.1 + 1))] [] μ (f5_endSession μ)
  unfold f5_endSession
  refine g_aload_n hK 0 rfl rfl d5_endSession_0 ?_
  refine g_getR hK zfin_5 (fa_5_7 kc_1) q_288 (r := 193) (by decide +kernel) d5_endSession_1 ?_
  refine g_getI hK zfin_3 (fa_3_1 kc_193) q_186 d5_endSession_4 (fun hf1 => ?_)
  refine g_iconst hK d5_endSession_7 zki1 ?_
  refine g_isub hK d5_endSession_8 (fun v1 hv1 => ?_)
  refine g_istore_n hK (lv2 := [(0, .ref (Z.2.2.1 + 1)), (1, .int (zi v1))]) [1, 0] rfl rfl (by decide) d5_endSession_9 ?_
  refine g_aload_n hK 0 rfl rfl d5_endSession_10 ?_
  refine g_iload_n hK 1 rfl rfl d5_endSession_11 ?_
  refine g_callVcl hK (mk := mkL) (rm := rm5_measuredText) (cb := 0) (sb := 0) (As := [.int (zi v1)]) (b := 1) (n := 1) (c5_measuredText K.2.1 hK.2.2.2.2.2.2.2.2.1 Z v1 μ hv1) rfl (ci := 5) rfl (by decide) kc_1 q_670 q_672 qs_5_measuredText q_1 q_673 rfl (by decide +kernel) (by decide) (Nat.le_of_ble_eq_true rfl) (Nat.le_of_ble_eq_true rfl) (Nat.le_of_ble_eq_true rfl) rfl d5_endSession_12 (fun r1 m1 hr1 hpr1 => ?_)
  refine g_l2i hK d5_endSession_15 (fun v2 hv2 => ?_)
  refine g_istore_n hK (lv2 := [(0, .ref (Z.2.2.1 + 1)), (1, .int (zi v1)), (2, .int (zi v2))]) [1, 2, 0] rfl rfl (by decide) d5_endSession_16 ?_
  refine g_aload_n hK 0 rfl rfl d5_endSession_17 ?_
  refine g_getR hK zfin_5 (fa_5_13 kc_1) q_294 (r := 200) (by decide +kernel) d5_endSession_18 ?_
  refine g_callVcm hK (rm := rm4_renderText) (cb := 0) (sb := 0) (As := []) (b := 200) (n := 0) (c4_renderText K.2.1 hK.2.2.2.2.2.2.2.2.1 Z  m1 ) rfl (ci := 4) rfl (by decide) kc_200 q_674 q_675 q_676 q_6 q_677 rfl (by decide +kernel) (by decide) (Nat.le_of_ble_eq_true rfl) (Nat.le_of_ble_eq_true rfl) (Nat.le_of_ble_eq_true rfl) rfl d5_endSession_21 (fun m2 hm2 => ?_)
  refine g_iload_n hK 1 rfl rfl d5_endSession_24 ?_
  refine g_if_ne hK hv1 (tgt := 46) (by decide) d5_endSession_25 (fun _ => ?_) (fun _ => ?_)
  · refine g_aload_n hK 0 rfl rfl d5_endSession_46 ?_
    refine g_getR hK zfin_5 (fa_5_7 kc_1) q_288 (r := 193) (by decide +kernel) d5_endSession_47 ?_
    refine g_iload_n hK 1 rfl rfl d5_endSession_50 ?_
    refine g_iconst hK d5_endSession_51 zki1 ?_
    refine g_isub hK d5_endSession_52 (fun v3 hv3 => ?_)
    refine g_aload_n hK 0 rfl rfl d5_endSession_53 ?_
    refine g_getR hK zfin_5 (fa_5_7 kc_1) q_288 (r := 193) (by decide +kernel) d5_endSession_54 ?_
    refine g_getR hK zfin_3 (fa_3_3 kc_193) q_190 (r := 195) (by decide +kernel) d5_endSession_57 ?_
    refine g_iload_n hK 1 rfl rfl d5_endSession_60 ?_
    refine g_iconst hK d5_endSession_61 zki1 ?_
    refine g_isub hK d5_endSession_62 (fun v4 hv4 => ?_)
    refine g_iald hK kc_195 d5_endSession_63 (fun _ hl1 => ?_)
    refine g_aload_n hK 0 rfl rfl d5_endSession_64 ?_
    refine g_getR hK zfin_5 (fa_5_13 kc_1) q_294 (r := 200) (by decide +kernel) d5_endSession_65 ?_
    refine g_getR hK zfin_4 (fa_4_12 kc_200) q_252 (r := 208) (by decide +kernel) d5_endSession_68 ?_
    refine g_iconst hK d5_endSession_71 zki0 ?_
    refine g_iload_n hK 2 rfl rfl d5_endSession_72 ?_
    refine g_callVcm hK (rm := rm3_typeBehind) (cb := 0) (sb := 0) (As := [.int (zi v3), .int (zi (zI m2 195 (zx v4))), .ref (Z.2.2.1 + 208), .int (zi 0), .int (zi v2)]) (b := 193) (n := 5) (c3_typeBehind K.2.1 hK.2.2.2.2.2.2.2.2.1 Z 193 v3 (zI m2 195 (zx v4)) 208 0 v2 m2 kc_193 hv3 hl1 kc_208 zc0 hv2) rfl (ci := 3) rfl (by decide) kc_193 q_634 q_635 q_636 q_5 q_637 rfl (by decide +kernel) (by decide) (Nat.le_of_ble_eq_true rfl) (Nat.le_of_ble_eq_true rfl) (Nat.le_of_ble_eq_true rfl) rfl d5_endSession_73 (fun m3 hm3 => ?_)
    refine g_lv (lv2 := [(0, .ref (Z.2.2.1 + 1)), (1, .int (zi v1))]) [0, 1] rfl ?_
    exact p5_endSession_76 hcx  v1 m3 hv1
  · refine g_aload_n hK 0 rfl rfl d5_endSession_28 ?_
    refine g_getR hK zfin_5 (fa_5_7 kc_1) q_288 (r := 193) (by decide +kernel) d5_endSession_29 ?_
    refine g_aload_n hK 0 rfl rfl d5_endSession_32 ?_
    refine g_getR hK zfin_5 (fa_5_13 kc_1) q_294 (r := 200) (by decide +kernel) d5_endSession_33 ?_
    refine g_getR hK zfin_4 (fa_4_12 kc_200) q_252 (r := 208) (by decide +kernel) d5_endSession_36 ?_
    refine g_iload_n hK 2 rfl rfl d5_endSession_39 ?_
    refine g_callVcm hK (rm := rm3_appendToDocument) (cb := 0) (sb := 0) (As := [.ref (Z.2.2.1 + 208), .int (zi v2)]) (b := 193) (n := 2) (c3_appendToDocument K.2.1 hK.2.2.2.2.2.2.2.2.1 Z 193 208 v2 m2 kc_193 kc_208 hv2) rfl (ci := 3) rfl (by decide) kc_193 q_679 q_680 q_681 q_5 q_682 rfl (by decide +kernel) (by decide) (Nat.le_of_ble_eq_true rfl) (Nat.le_of_ble_eq_true rfl) (Nat.le_of_ble_eq_true rfl) rfl d5_endSession_40 (fun m4 hm4 => ?_)
    refine g_goto hK (tgt := 76) (by decide) d5_endSession_43 ?_
    refine g_lv (lv2 := [(0, .ref (Z.2.2.1 + 1)), (1, .int (zi v1))]) [0, 1] rfl ?_
    exact p5_endSession_76 hcx  v1 m4 hv1
set_option maxRecDepth 20000 in
theorem p5_expand_157 {K : zK} {Z : zZ} (hcx : zOk K Z b5_expand RX5 5 (some .int) 7 157 1 6 ∧ ∀ x ∈ K.2.2.2.2.2.2.2.2.2.exceptionTable.toList, False) (a1 : Int) (ha1 : zr a1) (μ : zM) : zG K Z (zΩ Z) (zF K Z (zΩ Z) (zeX mkI)) 0 0 157 [(0, .ref (Z.2.2.1 + 1))] [] μ (f5_expand_157 a1 μ) := by
  obtain ⟨hK, hex⟩ := id hcx
  unfold f5_expand_157
  refine g_aload_n hK 0 rfl rfl d5_expand_157 ?_
  refine g_getR hK zfin_5 (fa_5_7 kc_1) q_288 (r := 193) (by decide +kernel) d5_expand_158 ?_
  refine g_getI hK zfin_3 (fa_3_1 kc_193) q_186 d5_expand_161 (fun hf7 => ?_)
  exact g_iret hK hf7 rfl rfl d5_expand_164
set_option maxRecDepth 20000 in
theorem p5_expand_110 {K : zK} {Z : zZ} (hcx : zOk K Z b5_expand RX5 5 (some .int) 7 157 1 6 ∧ ∀ x ∈ K.2.2.2.2.2.2.2.2.2.exceptionTable.toList, False) (a1 : Int) (ha1 : zr a1) (x3 : Int) (μ : zM) (hx3 : zr x3) : zG K Z (zΩ Z) (zF K Z (zΩ Z) (zeX mkI)) 0 0 110 [(0, .ref (Z.2.2.1 + 1)), (1, .int (zi a1)), (3, .int (zi x3))] [] μ (f5_expand_110 a1 x3 μ) := by
  obtain ⟨hK, hex⟩ := id hcx
  unfold f5_expand_110
  refine g_aload_n hK 0 rfl rfl d5_expand_110 ?_
  refine g_getR hK zfin_5 (fa_5_13 kc_1) q_294 (r := 200) (by decide +kernel) d5_expand_111 ?_
  refine g_aload_n hK 0 rfl rfl d5_expand_114 ?_
  refine g_getR hK zfin_5 (fa_5_7 kc_1) q_288 (r := 193) (by decide +kernel) d5_expand_115 ?_
  refine g_getI hK zfin_3 (fa_3_0 kc_193) q_184 d5_expand_118 (fun hf6 => ?_)
  refine g_callVcm hK (rm := rm4_arrangeOrder) (cb := 0) (sb := 0) (As := [.int (zi (zI μ 193 0))]) (b := 200) (n := 1) (c4_arrangeOrder K.2.1 hK.2.2.2.2.2.2.2.2.1 Z (zI μ 193 0) μ hf6) rfl (ci := 4) rfl (by decide) kc_200 q_569 q_570 q_571 q_6 q_572 rfl (by decide +kernel) (by decide) (Nat.le_of_ble_eq_true rfl) (Nat.le_of_ble_eq_true rfl) (Nat.le_of_ble_eq_true rfl) rfl d5_expand_121 (fun m8 hm8 => ?_)
  refine g_aload_n hK 0 rfl rfl d5_expand_124 ?_
  refine g_getR hK zfin_5 (fa_5_13 kc_1) q_294 (r := 200) (by decide +kernel) d5_expand_125 ?_
  refine g_getR hK zfin_4 (fa_4_9 kc_200) q_246 (r := 206) (by decide +kernel) d5_expand_128 ?_
  refine g_iconst hK d5_expand_131 zki0 ?_
  refine g_iald hK kc_206 d5_expand_132 (fun _ hl1 => ?_)
  refine g_ltI hl1 (fun v2 hv2 => ?_)
  refine g_istore hK (lv2 := [(0, .ref (Z.2.2.1 + 1)), (1, .int (zi a1)), (3, .int (zi x3)), (4, .int (zi v2))]) [1, 2, 3, 0] rfl (by decide) d5_expand_133 ?_
  refine g_aload_n hK 0 rfl rfl d5_expand_135 ?_
  refine g_callVcm hK (rm := rm5_keepForUndo) (cb := 0) (sb := 0) (As := []) (b := 1) (n := 0) (c5_keepForUndo K.2.1 hK.2.2.2.2.2.2.2.2.1 Z  m8 ) rfl (ci := 5) rfl (by decide) kc_1 q_590 q_592 qs_5_keepForUndo q_1 q_593 rfl (by decide +kernel) (by decide) (Nat.le_of_ble_eq_true rfl) (Nat.le_of_ble_eq_true rfl) (Nat.le_of_ble_eq_true rfl) rfl d5_expand_136 (fun m9 hm9 => ?_)
  refine g_aload_n hK 0 rfl rfl d5_expand_139 ?_
  refine g_getR hK zfin_5 (fa_5_7 kc_1) q_288 (r := 193) (by decide +kernel) d5_expand_140 ?_
  refine g_iload_n hK 1 rfl rfl d5_expand_143 ?_
  refine g_iload hK 3 rfl d5_expand_144 ?_
  refine g_callVcm hK (rm := rm3_push) (cb := 0) (sb := 0) (As := [.int (zi a1), .int (zi v2)]) (b := 193) (n := 2) (c3_push K.2.1 hK.2.2.2.2.2.2.2.2.1 Z 193 a1 v2 m9 kc_193 ha1 hv2) rfl (ci := 3) rfl (by decide) kc_193 q_1060 q_1061 q_1062 q_5 q_1063 rfl (by decide +kernel) (by decide) (Nat.le_of_ble_eq_true rfl) (Nat.le_of_ble_eq_true rfl) (Nat.le_of_ble_eq_true rfl) rfl d5_expand_146 (fun m10 hm10 => ?_)
  refine g_iload_n hK 2 rfl rfl d5_expand_149 ?_
  refine g_if_eq hK hx3 (tgt := 157) (by decide) d5_expand_150 (fun _ => ?_) (fun _ => ?_)
  · refine g_lv (lv2 := [(0, .ref (Z.2.2.1 + 1))]) [0] rfl ?_
    exact p5_expand_157 hcx a1 ha1   m10 
  · refine g_aload_n hK 0 rfl rfl d5_expand_153 ?_
    refine g_callVcm hK (rm := rm5_endSession) (cb := 0) (sb := 0) (As := []) (b := 1) (n := 0) (c5_endSession K.2.1 hK.2.2.2.2.2.2.2.2.1 Z  m10 ) rfl (ci := 5) rfl (by decide) kc_1 q_666 q_668 qs_5_endSession q_1 q_669 rfl (by decide +kernel) (by decide) (Nat.le_of_ble_eq_true rfl) (Nat.le_of_ble_eq_true rfl) (Nat.le_of_ble_eq_true rfl) rfl d5_expand_154 (fun m11 hm11 => ?_)
    refine g_lv (lv2 := [(0, .ref (Z.2.2.1 + 1))]) [0] rfl ?_
    exact p5_expand_157 hcx a1 ha1   m11 
