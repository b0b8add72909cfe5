set_option maxRecDepth 20000 in
theorem p5_expand_73 {K : zK} {Z : zZ} (hcx : zOk K Z b5_expand RX5 5 (some .int) 7 157 1 6 ∧ ∀ x ∈ K.2.2.2.2.2.2.2.2.2.exceptionTable.toList, False) (a1 : Int) (ha1 : zr a1) (s0 : Int) (μ : zM) (hs0 : zr s0) : zG K Z (zΩ Z) (zF K Z (zΩ Z) (zeX mkI)) 0 0 73 [(0, .ref (Z.2.2.1 + 1)), (1, .int (zi a1))] [.int (zi s0)] μ (f5_expand_73 a1 s0 μ) := by
  obtain ⟨hK, hex⟩ := id hcx
  unfold f5_expand_73
  refine g_istore_n hK (lv2 := [(0, .ref (Z.2.2.1 + 1)), (1, .int (zi a1)), (3, .int (zi s0))]) [1, 2, 0] rfl rfl (by decide) d5_expand_73 ?_
  refine g_iload_n hK 2 rfl rfl d5_expand_74 ?_
  refine g_if_eq hK hs0 (tgt := 110) (by decide) d5_expand_75 (fun _ => ?_) (fun _ => ?_)
  · exact p5_expand_110 hcx a1 ha1  s0 μ hs0
  · refine g_aload_n hK 0 rfl rfl d5_expand_78 ?_
    refine g_aload_n hK 0 rfl rfl d5_expand_79 ?_
    refine g_getR hK zfin_5 (fa_5_7 kc_1) q_288 (r := 193) (by decide +kernel) d5_expand_80 ?_
    refine g_getI hK zfin_3 (fa_3_1 kc_193) q_186 d5_expand_83 (fun hf4 => ?_)
    refine g_aload_n hK 0 rfl rfl d5_expand_86 ?_
    refine g_getR hK zfin_5 (fa_5_13 kc_1) q_294 (r := 200) (by decide +kernel) d5_expand_87 ?_
    refine g_getL hK zfin_4 (fa_4_8 kc_200) q_244 d5_expand_90 (fun hf5 => ?_)
    refine g_callVcl hK (mk := mkI) (rm := rm5_reasonNotToEnd) (cb := 0) (sb := 0) (As := [.int (zi (zI μ 193 1)), .long (zl (zL μ 200 8))]) (b := 1) (n := 2) (c5_reasonNotToEnd K.2.1 hK.2.2.2.2.2.2.2.2.1 Z (zI μ 193 1) (zL μ 200 8) μ hf4 hf5) rfl (ci := 5) rfl (by decide) kc_1 q_659 q_661 qs_5_reasonNotToEnd q_1 q_662 rfl (by decide +kernel) (by decide) (Nat.le_of_ble_eq_true rfl) (Nat.le_of_ble_eq_true rfl) (Nat.le_of_ble_eq_true rfl) rfl d5_expand_93 (fun r4 m6 hr4 hpr4 => ?_)
    refine g_istore hK (lv2 := [(0, .ref (Z.2.2.1 + 1)), (1, .int (zi a1)), (3, .int (zi s0)), (4, .int (zi r4))]) [1, 2, 3, 0] rfl (by decide) d5_expand_96 ?_
    refine g_iload hK 3 rfl d5_expand_98 ?_
    refine g_if_eq hK hpr4 (tgt := 110) (by decide) d5_expand_100 (fun _ => ?_) (fun _ => ?_)
    · refine g_lv (lv2 := [(0, .ref (Z.2.2.1 + 1)), (1, .int (zi a1)), (3, .int (zi s0))]) [0, 1, 2] rfl ?_
      exact p5_expand_110 hcx a1 ha1  s0 m6 hs0
    · refine g_aload_n hK 0 rfl rfl d5_expand_103 ?_
      refine g_iload hK 3 rfl d5_expand_104 ?_
      refine g_callVcl hK (mk := mkI) (rm := rm5_refuse) (cb := 0) (sb := 0) (As := [.int (zi r4)]) (b := 1) (n := 1) (c5_refuse K.2.1 hK.2.2.2.2.2.2.2.2.1 Z r4 m6 hpr4) rfl (ci := 5) rfl (by decide) kc_1 q_509 q_511 qs_5_refuse q_1 q_512 rfl (by decide +kernel) (by decide) (Nat.le_of_ble_eq_true rfl) (Nat.le_of_ble_eq_true rfl) (Nat.le_of_ble_eq_true rfl) rfl d5_expand_106 (fun r5 m7 hr5 hpr5 => ?_)
      exact g_iret hK hpr5 rfl rfl d5_expand_109
set_option maxRecDepth 20000 in
theorem c5_expand (l : Launch) (hst : l.stackTraces = false) (Z : zZ) (a1 : Int) (μ : zM) (ha1 : zr a1) : ∀ x, f5_expand a1 μ = some x → zCt l Z (zΩ Z) y5_expand (zws (.code y5_expand b5_expand 5 (some .int))) rm5_expand [.ref (Z.2.2.1 + 1), .int (zi a1)] μ (zeX mkI x) := by
  intro x h
  refine zCt.of (enc := (zeX mkI)) h (by decide) hst (Nat.le_of_ble_eq_true rfl) (fun K hK0 hex hl _ => ?_)
  subst hl
  have hcx : zOk K Z b5_expand RX5 5 (some .int) 7 157 1 6 ∧ ∀ x ∈ K.2.2.2.2.2.2.2.2.2.exceptionTable.toList, False := ⟨hK0, hex⟩
  have hK := hcx.1
  show zG K Z (zΩ Z) (zF K Z (zΩ Z) (zeX mkI)) 1 6 0 [(0, .ref (Z.2.2.1 + 1)), (1, .int (zi a1))] [] μ (f5_expand a1 μ)
  unfold f5_expand
  refine g_aload_n hK 0 rfl rfl d5_expand_0 ?_
  refine g_iload_n hK 1 rfl rfl d5_expand_1 ?_
  refine g_callVcx (mk2 := mkI) hK (mk := (mkR Z.2.2.1 2)) (rm := rm5_requireSnippet) (cb := 0) (sb := 0) hex (As := [.int (zi a1)]) (b := 1) (n := 1) (c5_requireSnippet K.2.1 hK.2.2.2.2.2.2.2.2.1 Z a1 μ ha1) rfl (ci := 5) rfl (by decide) kc_1 q_814 q_816 qs_5_requireSnippet q_1 q_817 rfl (by decide +kernel) (by decide) (Nat.le_of_ble_eq_true rfl) (Nat.le_of_ble_eq_true rfl) (Nat.le_of_ble_eq_true rfl) rfl d5_expand_2 (fun r1 m1 hr1 hpr1 => ?_)
  refine g_astore_n hK (lv2 := [(0, .ref (Z.2.2.1 + 1)), (1, .int (zi a1)), (2, .ref (Z.2.2.1 + r1))]) [1, 2, 0] rfl rfl (by decide) d5_expand_5 ?_
  refine g_aload_n hK 0 rfl rfl d5_expand_6 ?_
  refine g_getR hK zfin_5 (fa_5_7 kc_1) q_288 (r := 193) (by decide +kernel) d5_expand_7 ?_
  refine g_getI hK zfin_3 (fa_3_1 kc_193) q_186 d5_expand_10 (fun hf1 => ?_)
  refine g_iconst hK d5_expand_13 zki4 ?_
  refine g_icmp_lt hK hf1 zc4 (tgt := 23) (by decide) d5_expand_14 (fun _ => ?_) (fun _ => ?_)
  · refine g_aload_n hK 0 rfl rfl d5_expand_23 ?_
    refine g_getR hK zfin_5 (fa_5_13 kc_1) q_294 (r := 200) (by decide +kernel) d5_expand_24 ?_
    refine g_aload_n hK 2 rfl rfl d5_expand_27 ?_
    refine g_callVcm hK (rm := rm4_takeUntouched) (cb := 0) (sb := 0) (As := [.ref (Z.2.2.1 + r1)]) (b := 200) (n := 1) (c4_takeUntouched K.2.1 hK.2.2.2.2.2.2.2.2.1 Z r1 m1 hpr1) rfl (ci := 4) rfl (by decide) kc_200 q_1047 q_1048 q_1049 q_6 q_1050 rfl (by decide +kernel) (by decide) (Nat.le_of_ble_eq_true rfl) (Nat.le_of_ble_eq_true rfl) (Nat.le_of_ble_eq_true rfl) rfl d5_expand_28 (fun m2 hm2 => ?_)
    refine g_aload_n hK 0 rfl rfl d5_expand_31 ?_
    refine g_getR hK zfin_5 (fa_5_13 kc_1) q_294 (r := 200) (by decide +kernel) d5_expand_32 ?_
    refine g_callVcm hK (rm := rm4_measure) (cb := 0) (sb := 0) (As := []) (b := 200) (n := 0) (c4_measure K.2.1 hK.2.2.2.2.2.2.2.2.1 Z  m2 ) rfl (ci := 4) rfl (by decide) kc_200 q_532 q_533 q_534 q_6 q_535 rfl (by decide +kernel) (by decide) (Nat.le_of_ble_eq_true rfl) (Nat.le_of_ble_eq_true rfl) (Nat.le_of_ble_eq_true rfl) rfl d5_expand_35 (fun m3 hm3 => ?_)
    refine g_aload_n hK 0 rfl rfl d5_expand_38 ?_
    refine g_getR hK zfin_5 (fa_5_13 kc_1) q_294 (r := 200) (by decide +kernel) d5_expand_39 ?_
    refine g_getL hK zfin_4 (fa_4_8 kc_200) q_244 d5_expand_42 (fun hf2 => ?_)
    refine g_ldc2 hK (v := 400) q_589 d5_expand_45 ?_
    refine g_lcmp hK d5_expand_48 hf2 zcL400 (fun v1 hv1 => ?_)
    refine g_if_le hK hv1 (tgt := 58) (by decide) d5_expand_49 (fun _ => ?_) (fun _ => ?_)
    · refine g_aload_n hK 0 rfl rfl d5_expand_58 ?_
      refine g_getR hK zfin_5 (fa_5_13 kc_1) q_294 (r := 200) (by decide +kernel) d5_expand_59 ?_
      refine g_getI hK zfin_4 (fa_4_3 kc_200) q_234 d5_expand_62 (fun hf3 => ?_)
      refine g_if_ne hK hf3 (tgt := 72) (by decide) d5_expand_65 (fun _ => ?_) (fun _ => ?_)
      · refine g_iconst hK d5_expand_72 zki0 ?_
        refine g_lv (lv2 := [(0, .ref (Z.2.2.1 + 1)), (1, .int (zi a1))]) [0, 1] rfl ?_
        exact p5_expand_73 hcx a1 ha1  0 m3 zc0
      · refine g_iconst hK d5_expand_68 zki1 ?_
        refine g_goto hK (tgt := 73) (by decide) d5_expand_69 ?_
        refine g_lv (lv2 := [(0, .ref (Z.2.2.1 + 1)), (1, .int (zi a1))]) [0, 1] rfl ?_
        exact p5_expand_73 hcx a1 ha1  1 m3 zc1
    · refine g_aload_n hK 0 rfl rfl d5_expand_52 ?_
      refine g_iconst hK d5_expand_53 zki3 ?_
      refine g_callVcl hK (mk := mkI) (rm := rm5_refuse) (cb := 0) (sb := 0) (As := [.int (zi 3)]) (b := 1) (n := 1) (c5_refuse K.2.1 hK.2.2.2.2.2.2.2.2.1 Z 3 m3 zc3) rfl (ci := 5) rfl (by decide) kc_1 q_509 q_511 qs_5_refuse q_1 q_512 rfl (by decide +kernel) (by decide) (Nat.le_of_ble_eq_true rfl) (Nat.le_of_ble_eq_true rfl) (Nat.le_of_ble_eq_true rfl) rfl d5_expand_54 (fun r2 m4 hr2 hpr2 => ?_)
      exact g_iret hK hpr2 rfl rfl d5_expand_57
  · refine g_aload_n hK 0 rfl rfl d5_expand_17 ?_
    refine g_iconst hK d5_expand_18 zki2 ?_
    refine g_callVcl hK (mk := mkI) (rm := rm5_refuse) (cb := 0) (sb := 0) (As := [.int (zi 2)]) (b := 1) (n := 1) (c5_refuse K.2.1 hK.2.2.2.2.2.2.2.2.1 Z 2 m1 zc2) rfl (ci := 5) rfl (by decide) kc_1 q_509 q_511 qs_5_refuse q_1 q_512 rfl (by decide +kernel) (by decide) (Nat.le_of_ble_eq_true rfl) (Nat.le_of_ble_eq_true rfl) (Nat.le_of_ble_eq_true rfl) rfl d5_expand_19 (fun r3 m5 hr3 hpr3 => ?_)
    exact g_iret hK hpr3 rfl rfl d5_expand_22
set_option maxRecDepth 20000 in
theorem c5_typeFromBuffer (l : Launch) (hst : l.stackTraces = false) (Z : zZ) (a1 : Int) (μ : zM) (ha1 : zr a1) : ∀ x, f5_typeFromBuffer a1 μ = some x → zCt l Z (zΩ Z) y5_typeFromBuffer (zws (.code y5_typeFromBuffer b5_typeFromBuffer 5 (some .int))) rm5_typeFromBuffer [.ref (Z.2.2.1 + 1), .int (zi a1)] μ (ze2 mkI x) := by
  intro x h
  refine zCt.of (enc := (ze2 mkI)) h (by decide) hst (Nat.le_of_ble_eq_true rfl) (fun K hK0 hex hl _ => ?_)
  subst hl
  have hcx : zOk K Z b5_typeFromBuffer RX5 5 (some .int) 5 130 0 0 ∧ ∀ x ∈ K.2.2.2.2.2.2.2.2.2.exceptionTable.toList, False := ⟨hK0, hex⟩
  have hK := hcx.1
  show zG K Z (zΩ Z) (zF K Z (zΩ Z) (ze2 mkI)) 0 0 0 [(0, .ref (Z.2.2.1 + 1)), (1, .int (zi a1))] [] μ (f5_typeFromBuffer a1 μ)
  unfold f5_typeFromBuffer
  refine g_aload_n hK 0 rfl rfl d5_typeFromBuffer_0 ?_
  refine g_getR hK zfin_5 (fa_5_7 kc_1) q_288 (r := 193) (by decide +kernel) d5_typeFromBuffer_1 ?_
  refine g_getI hK zfin_3 (fa_3_1 kc_193) q_186 d5_typeFromBuffer_4 (fun hf1 => ?_)
  refine g_if_ne hK hf1 (tgt := 16) (by decide) d5_typeFromBuffer_7 (fun _ => ?_) (fun _ => ?_)
  · refine g_aload_n hK 0 rfl rfl d5_typeFromBuffer_16 ?_
    refine g_getR hK zfin_5 (fa_5_7 kc_1) q_288 (r := 193) (by decide +kernel) d5_typeFromBuffer_17 ?_
    refine g_getI hK zfin_3 (fa_3_1 kc_193) q_186 d5_typeFromBuffer_20 (fun hf2 => ?_)
    refine g_iconst hK d5_typeFromBuffer_23 zki1 ?_
    refine g_isub hK d5_typeFromBuffer_24 (fun v1 hv1 => ?_)
    refine g_istore_n hK (lv2 := [(0, .ref (Z.2.2.1 + 1)), (1, .int (zi a1)), (2, .int (zi v1))]) [1, 2, 0] rfl rfl (by decide) d5_typeFromBuffer_25 ?_
    refine g_aload_n hK 0 rfl rfl d5_typeFromBuffer_26 ?_
    refine g_getR hK zfin_5 (fa_5_7 kc_1) q_288 (r := 193) (by decide +kernel) d5_typeFromBuffer_27 ?_
    refine g_getR hK zfin_3 (fa_3_3 kc_193) q_190 (r := 195) (by decide +kernel) d5_typeFromBuffer_30 ?_
    refine g_iload_n hK 2 rfl rfl d5_typeFromBuffer_33 ?_
    refine g_iald hK kc_195 d5_typeFromBuffer_34 (fun _ hl1 => ?_)
    refine g_ltI hl1 (fun v2 hv2 => ?_)
    refine g_istore_n hK (lv2 := [(0, .ref (Z.2.2.1 + 1)), (1, .int (zi a1)), (2, .int (zi v1)), (3, .int (zi v2))]) [1, 2, 3, 0] rfl rfl (by decide) d5_typeFromBuffer_35 ?_
    refine g_aload_n hK 0 rfl rfl d5_typeFromBuffer_36 ?_
    refine g_getR hK zfin_5 (fa_5_7 kc_1) q_288 (r := 193) (by decide +kernel) d5_typeFromBuffer_37 ?_
    refine g_iload_n hK 2 rfl rfl d5_typeFromBuffer_40 ?_
    refine g_iload_n hK 3 rfl rfl d5_typeFromBuffer_41 ?_
    refine g_callVco hK (mk := mkI) (rm := rm3_typedLength) (cb := 0) (sb := 0) (As := [.int (zi v1), .int (zi v2)]) (b := 193) (n := 2) (c3_typedLength K.2.1 hK.2.2.2.2.2.2.2.2.1 Z 193 v1 v2 μ kc_193 hv1 hv2) rfl (ci := 3) rfl (by decide) kc_193 q_664 q_526 q_527 q_5 q_528 rfl (by decide +kernel) (by decide) (Nat.le_of_ble_eq_true rfl) (Nat.le_of_ble_eq_true rfl) (Nat.le_of_ble_eq_true rfl) rfl d5_typeFromBuffer_42 (fun r1 hr1 hpr1 => ?_)
    refine g_iload_n hK 1 rfl rfl d5_typeFromBuffer_45 ?_
    refine g_iadd hK d5_typeFromBuffer_46 (fun v3 hv3 => ?_)
    refine g_istore hK (lv2 := [(0, .ref (Z.2.2.1 + 1)), (1, .int (zi a1)), (2, .int (zi v1)), (3, .int (zi v2)), (4, .int (zi v3))]) [1, 2, 3, 4, 0] rfl (by decide) d5_typeFromBuffer_47 ?_
    refine g_iload hK 4 rfl d5_typeFromBuffer_49 ?_
    refine g_bipush hK d5_typeFromBuffer_51 zkb40 ?_
    refine g_icmp_le hK hv3 zc40 (tgt := 62) (by decide) d5_typeFromBuffer_53 (fun _ => ?_) (fun _ => ?_)
    · refine g_aload_n hK 0 rfl rfl d5_typeFromBuffer_62 ?_
      refine g_iload_n hK 2 rfl rfl d5_typeFromBuffer_63 ?_
      refine g_iload_n hK 3 rfl rfl d5_typeFromBuffer_64 ?_
      refine g_iload hK 4 rfl d5_typeFromBuffer_65 ?_
      refine g_callVcl hK (mk := mkL) (rm := rm5_textIfTyped) (cb := 0) (sb := 0) (As := [.int (zi v1), .int (zi v2), .int (zi v3)]) (b := 1) (n := 3) (c5_textIfTyped K.2.1 hK.2.2.2.2.2.2.2.2.1 Z v1 v2 v3 μ hv1 hv2 hv3) rfl (ci := 5) rfl (by decide) kc_1 q_581 q_583 qs_5_textIfTyped q_1 q_584 rfl (by decide +kernel) (by decide) (Nat.le_of_ble_eq_true rfl) (Nat.le_of_ble_eq_true rfl) (Nat.le_of_ble_eq_true rfl) rfl d5_typeFromBuffer_67 (fun r2 m1 hr2 hpr2 => ?_)
      refine g_ldc2 hK (v := 400) q_589 d5_typeFromBuffer_70 ?_
      refine g_lcmp hK d5_typeFromBuffer_73 hpr2 zcL400 (fun v4 hv4 => ?_)
      refine g_if_le hK hv4 (tgt := 83) (by decide) d5_typeFromBuffer_74 (fun _ => ?_) (fun _ => ?_)
      · refine g_aload_n hK 0 rfl rfl d5_typeFromBuffer_83 ?_
        refine g_callVcm hK (rm := rm5_keepForUndo) (cb := 0) (sb := 0) (As := []) (b := 1) (n := 0) (c5_keepForUndo K.2.1 hK.2.2.2.2.2.2.2.2.1 Z  m1 ) rfl (ci := 5) rfl (by decide) kc_1 q_590 q_592 qs_5_keepForUndo q_1 q_593 rfl (by decide +kernel) (by decide) (Nat.le_of_ble_eq_true rfl) (Nat.le_of_ble_eq_true rfl) (Nat.le_of_ble_eq_true rfl) rfl d5_typeFromBuffer_84 (fun m2 hm2 => ?_)
        refine g_aload_n hK 0 rfl rfl d5_typeFromBuffer_87 ?_
        refine g_getR hK zfin_5 (fa_5_7 kc_1) q_288 (r := 193) (by decide +kernel) d5_typeFromBuffer_88 ?_
        refine g_iload_n hK 2 rfl rfl d5_typeFromBuffer_91 ?_
        refine g_iload_n hK 3 rfl rfl d5_typeFromBuffer_92 ?_
        refine g_aload_n hK 0 rfl rfl d5_typeFromBuffer_93 ?_
        refine g_getR hK zfin_5 (fa_5_0 kc_1) q_281 (r := 2) (by decide +kernel) d5_typeFromBuffer_94 ?_
        refine g_iconst hK d5_typeFromBuffer_97 zki0 ?_
        refine g_iload_n hK 1 rfl rfl d5_typeFromBuffer_98 ?_
        refine g_callVcm hK (rm := rm3_typeBehind) (cb := 0) (sb := 0) (As := [.int (zi v1), .int (zi v2), .ref (Z.2.2.1 + 2), .int (zi 0), .int (zi a1)]) (b := 193) (n := 5) (c3_typeBehind K.2.1 hK.2.2.2.2.2.2.2.2.1 Z 193 v1 v2 2 0 a1 m2 kc_193 hv1 hv2 kc_2 zc0 ha1) rfl (ci := 3) rfl (by decide) kc_193 q_634 q_635 q_636 q_5 q_637 rfl (by decide +kernel) (by decide) (Nat.le_of_ble_eq_true rfl) (Nat.le_of_ble_eq_true rfl) (Nat.le_of_ble_eq_true rfl) rfl d5_typeFromBuffer_99 (fun m3 hm3 => ?_)
        refine g_iload hK 4 rfl d5_typeFromBuffer_102 ?_
        exact g_iret hK hv3 rfl rfl d5_typeFromBuffer_104
      · refine g_aload_n hK 0 rfl rfl d5_typeFromBuffer_77 ?_
        refine g_iconst hK d5_typeFromBuffer_78 zki3 ?_
        refine g_callVcl hK (mk := mkI) (rm := rm5_refuse) (cb := 0) (sb := 0) (As := [.int (zi 3)]) (b := 1) (n := 1) (c5_refuse K.2.1 hK.2.2.2.2.2.2.2.2.1 Z 3 m1 zc3) rfl (ci := 5) rfl (by decide) kc_1 q_509 q_511 qs_5_refuse q_1 q_512 rfl (by decide +kernel) (by decide) (Nat.le_of_ble_eq_true rfl) (Nat.le_of_ble_eq_true rfl) (Nat.le_of_ble_eq_true rfl) rfl d5_typeFromBuffer_79 (fun r3 m4 hr3 hpr3 => ?_)
        exact g_iret hK hpr3 rfl rfl d5_typeFromBuffer_82
    · refine g_aload_n hK 0 rfl rfl d5_typeFromBuffer_56 ?_
      refine g_iconst hK d5_typeFromBuffer_57 zki4 ?_
      refine g_callVcl hK (mk := mkI) (rm := rm5_refuse) (cb := 0) (sb := 0) (As := [.int (zi 4)]) (b := 1) (n := 1) (c5_refuse K.2.1 hK.2.2.2.2.2.2.2.2.1 Z 4 μ zc4) rfl (ci := 5) rfl (by decide) kc_1 q_509 q_511 qs_5_refuse q_1 q_512 rfl (by decide +kernel) (by decide) (Nat.le_of_ble_eq_true rfl) (Nat.le_of_ble_eq_true rfl) (Nat.le_of_ble_eq_true rfl) rfl d5_typeFromBuffer_58 (fun r4 m5 hr4 hpr4 => ?_)
      exact g_iret hK hpr4 rfl rfl d5_typeFromBuffer_61
  · refine g_aload_n hK 0 rfl rfl d5_typeFromBuffer_10 ?_
    refine g_iconst hK d5_typeFromBuffer_11 zki1 ?_
    refine g_callVcl hK (mk := mkI) (rm := rm5_refuse) (cb := 0) (sb := 0) (As := [.int (zi 1)]) (b := 1) (n := 1) (c5_refuse K.2.1 hK.2.2.2.2.2.2.2.2.1 Z 1 μ zc1) rfl (ci := 5) rfl (by decide) kc_1 q_509 q_511 qs_5_refuse q_1 q_512 rfl (by decide +kernel) (by decide) (Nat.le_of_ble_eq_true rfl) (Nat.le_of_ble_eq_true rfl) (Nat.le_of_ble_eq_true rfl) rfl d5_typeFromBuffer_12 (fun r5 m6 hr5 hpr5 => ?_)
    exact g_iret hK hpr5 rfl rfl d5_typeFromBuffer_15
set_option maxRecDepth 20000 in
theorem c5_type (l : Launch) (hst : l.stackTraces = false) (Z : zZ) (a1 : Int) (μ : zM) (ha1 : zr a1) : ∀ x, f5_type a1 μ = some x → zCt l Z (zΩ Z) y5_type (zws (.code y5_type b5_type 3 (some .int))) rm5_type [.ref (Z.2.2.1 + 1), .int (zi a1)] μ (zeX mkI x) := by
  intro x h
  refine zCt.of (enc := (zeX mkI)) h (by decide) hst (Nat.le_of_ble_eq_true rfl) (fun K hK0 hex hl _ => ?_)
  subst hl
  have hcx : zOk K Z b5_type RX5 3 (some .int) 7 154 2 12 ∧ ∀ x ∈ K.2.2.2.2.2.2.2.2.2.exceptionTable.toList, False := ⟨hK0, hex⟩
  have hK := hcx.1
  show zG K Z (zΩ Z) (zF K Z (zΩ Z) (zeX mkI)) 2 12 0 [(0, .ref (Z.2.2.1 + 1)), (1, .int (zi a1))] [] μ (f5_type a1 μ)
  unfold f5_type
  refine g_iload_n hK 1 rfl rfl d5_type_0 ?_
  refine g_callScx (mk2 := mkI) hK (mk := mkV) (rm := rm5_requireBytesAtOnce) (cb := 1) (sb := 6) hex (As := [.int (zi a1)]) (n := 1) (c5_requireBytesAtOnce K.2.1 hK.2.2.2.2.2.2.2.2.1 Z a1 μ ha1) q_1029 q_1030 q_1 q_1031 rfl (by decide +kernel) (by decide) (Nat.le_of_ble_eq_true rfl) (Nat.le_of_ble_eq_true rfl) (Nat.le_of_ble_eq_true rfl) rfl d5_type_1 (fun r1 m1 hr1 hpr1 => ?_)
  refine g_aload_n hK 0 rfl rfl d5_type_4 ?_
  refine g_getI hK zfin_5 (fa_5_1 kc_1) q_282 d5_type_5 (fun hf1 => ?_)
  refine g_iload_n hK 1 rfl rfl d5_type_8 ?_
  refine g_icmp_ge hK hf1 ha1 (tgt := 23) (by decide) d5_type_9 (fun _ => ?_) (fun _ => ?_)
  · refine g_aload_n hK 0 rfl rfl d5_type_23 ?_
    refine g_iload_n hK 1 rfl rfl d5_type_24 ?_
    refine g_callVcl hK (mk := mkI) (rm := rm5_typeFromBuffer) (cb := 1) (sb := 6) (As := [.int (zi a1)]) (b := 1) (n := 1) (c5_typeFromBuffer K.2.1 hK.2.2.2.2.2.2.2.2.1 Z a1 m1 ha1) rfl (ci := 5) rfl (by decide) kc_1 q_1088 q_1090 qs_5_typeFromBuffer q_1 q_1091 rfl (by decide +kernel) (by decide) (Nat.le_of_ble_eq_true rfl) (Nat.le_of_ble_eq_true rfl) (Nat.le_of_ble_eq_true rfl) rfl d5_type_25 (fun r2 m2 hr2 hpr2 => ?_)
    refine g_istore_n hK (lv2 := [(0, .ref (Z.2.2.1 + 1)), (1, .int (zi a1)), (2, .int (zi r2))]) [1, 2, 0] rfl rfl (by decide) d5_type_28 ?_
    refine g_aload_n hK 0 rfl rfl d5_type_29 ?_
    refine g_iconst hK d5_type_30 zki0 ?_
    refine g_putI hK zfin_5 (fa_5_1 kc_1) q_282 zc0 rfl (tyX5_ok 1 (by decide)) tyX5 tyX5_ok nmX5 d5_type_31 ?_
    refine g_ltM (fun m3 => ?_)
    refine g_iload_n hK 2 rfl rfl d5_type_34 ?_
    exact g_iret hK hpr2 rfl rfl d5_type_35
  · exact g_throwNW hK (i9 := 13) hex rfl q_1072 q_22 rfl d5_type_12 d5_type_15 d5_type_16 d5_type_19 d5_type_22 (by decide) (Nat.le_of_ble_eq_true rfl) (by decide) (by decide)
set_option maxRecDepth 20000 in
theorem c5_erase (l : Launch) (hst : l.stackTraces = false) (Z : zZ) (μ : zM) : ∀ x, f5_erase μ = some x → zCt l Z (zΩ Z) y5_erase (zws (.code y5_erase b5_erase 4 (some .int))) rm5_erase [.ref (Z.2.2.1 + 1)] μ (ze2 mkI x) := by
  intro x h
  refine zCt.of (enc := (ze2 mkI)) h (by decide) hst (Nat.le_of_ble_eq_true rfl) (fun K hK0 hex hl _ => ?_)
  subst hl
  have hcx : zOk K Z b5_erase RX5 4 (some .int) 5 130 0 0 ∧ ∀ x ∈ K.2.2.2.2.2.2.2.2.2.exceptionTable.toList, False := ⟨hK0, hex⟩
  have hK := hcx.1
  show zG K Z (zΩ Z) (zF K Z (zΩ Z) (ze2 mkI)) 0 0 0 [(0, .ref (Z.2.2.1 + 1))] [] μ (f5_erase μ)
  unfold f5_erase
  refine g_aload_n hK 0 rfl rfl d5_erase_0 ?_
  refine g_getR hK zfin_5 (fa_5_7 kc_1) q_288 (r := 193) (by decide +kernel) d5_erase_1 ?_
  refine g_getI hK zfin_3 (fa_3_1 kc_193) q_186 d5_erase_4 (fun hf1 => ?_)
  refine g_if_ne hK hf1 (tgt := 16) (by decide) d5_erase_7 (fun _ => ?_) (fun _ => ?_)
  · refine g_aload_n hK 0 rfl rfl d5_erase_16 ?_
    refine g_getR hK zfin_5 (fa_5_7 kc_1) q_288 (r := 193) (by decide +kernel) d5_erase_17 ?_
    refine g_getI hK zfin_3 (fa_3_1 kc_193) q_186 d5_erase_20 (fun hf2 => ?_)
    refine g_iconst hK d5_erase_23 zki1 ?_
    refine g_isub hK d5_erase_24 (fun v1 hv1 => ?_)
    refine g_istore_n hK (lv2 := [(0, .ref (Z.2.2.1 + 1)), (1, .int (zi v1))]) [1, 0] rfl rfl (by decide) d5_erase_25 ?_
    refine g_aload_n hK 0 rfl rfl d5_erase_26 ?_
    refine g_getR hK zfin_5 (fa_5_7 kc_1) q_288 (r := 193) (by decide +kernel) d5_erase_27 ?_
    refine g_getR hK zfin_3 (fa_3_3 kc_193) q_190 (r := 195) (by decide +kernel) d5_erase_30 ?_
    refine g_iload_n hK 1 rfl rfl d5_erase_33 ?_
    refine g_iald hK kc_195 d5_erase_34 (fun _ hl1 => ?_)
    refine g_ltI hl1 (fun v2 hv2 => ?_)
    refine g_istore_n hK (lv2 := [(0, .ref (Z.2.2.1 + 1)), (1, .int (zi v1)), (2, .int (zi v2))]) [1, 2, 0] rfl rfl (by decide) d5_erase_35 ?_
    refine g_aload_n hK 0 rfl rfl d5_erase_36 ?_
    refine g_iload_n hK 1 rfl rfl d5_erase_37 ?_
    refine g_callVcm hK (rm := rm5_lookAt) (cb := 0) (sb := 0) (As := [.int (zi v1)]) (b := 1) (n := 1) (c5_lookAt K.2.1 hK.2.2.2.2.2.2.2.2.1 Z v1 μ hv1) rfl (ci := 5) rfl (by decide) kc_1 q_513 q_515 qs_5_lookAt q_1 q_516 rfl (by decide +kernel) (by decide) (Nat.le_of_ble_eq_true rfl) (Nat.le_of_ble_eq_true rfl) (Nat.le_of_ble_eq_true rfl) rfl d5_erase_38 (fun m1 hm1 => ?_)
    refine g_aload_n hK 0 rfl rfl d5_erase_41 ?_
    refine g_getR hK zfin_5 (fa_5_13 kc_1) q_294 (r := 200) (by decide +kernel) d5_erase_42 ?_
    refine g_getR hK zfin_4 (fa_4_7 kc_200) q_242 (r := 205) (by decide +kernel) d5_erase_45 ?_
    refine g_iload_n hK 2 rfl rfl d5_erase_48 ?_
    refine g_lald hK kc_205 d5_erase_49 (fun _ hl2 => ?_)
    refine g_l2i hK d5_erase_50 (fun v3 hv3 => ?_)
    refine g_iconst hK d5_erase_51 zki1 ?_
    refine g_isub hK d5_erase_52 (fun v4 hv4 => ?_)
    refine g_istore_n hK (lv2 := [(0, .ref (Z.2.2.1 + 1)), (1, .int (zi v1)), (2, .int (zi v2)), (3, .int (zi v4))]) [1, 2, 3, 0] rfl rfl (by decide) d5_erase_53 ?_
    refine g_iload_n hK 3 rfl rfl d5_erase_54 ?_
    refine g_if_ge hK hv4 (tgt := 64) (by decide) d5_erase_55 (fun _ => ?_) (fun _ => ?_)
    · refine g_iload_n hK 3 rfl rfl d5_erase_64 ?_
      refine g_bipush hK d5_erase_65 zkb40 ?_
      refine g_icmp_le hK hv4 zc40 (tgt := 76) (by decide) d5_erase_67 (fun _ => ?_) (fun _ => ?_)
      · refine g_aload_n hK 0 rfl rfl d5_erase_76 ?_
        refine g_iload_n hK 1 rfl rfl d5_erase_77 ?_
        refine g_iload_n hK 2 rfl rfl d5_erase_78 ?_
        refine g_iload_n hK 3 rfl rfl d5_erase_79 ?_
        refine g_callVcl hK (mk := mkL) (rm := rm5_textIfTyped) (cb := 0) (sb := 0) (As := [.int (zi v1), .int (zi v2), .int (zi v4)]) (b := 1) (n := 3) (c5_textIfTyped K.2.1 hK.2.2.2.2.2.2.2.2.1 Z v1 v2 v4 m1 hv1 hv2 hv4) rfl (ci := 5) rfl (by decide) kc_1 q_581 q_583 qs_5_textIfTyped q_1 q_584 rfl (by decide +kernel) (by decide) (Nat.le_of_ble_eq_true rfl) (Nat.le_of_ble_eq_true rfl) (Nat.le_of_ble_eq_true rfl) rfl d5_erase_80 (fun r1 m2 hr1 hpr1 => ?_)
        refine g_ldc2 hK (v := 400) q_589 d5_erase_83 ?_
        refine g_lcmp hK d5_erase_86 hpr1 zcL400 (fun v5 hv5 => ?_)
        refine g_if_le hK hv5 (tgt := 96) (by decide) d5_erase_87 (fun _ => ?_) (fun _ => ?_)
        · refine g_aload_n hK 0 rfl rfl d5_erase_96 ?_
          refine g_callVcm hK (rm := rm5_keepForUndo) (cb := 0) (sb := 0) (As := []) (b := 1) (n := 0) (c5_keepForUndo K.2.1 hK.2.2.2.2.2.2.2.2.1 Z  m2 ) rfl (ci := 5) rfl (by decide) kc_1 q_590 q_592 qs_5_keepForUndo q_1 q_593 rfl (by decide +kernel) (by decide) (Nat.le_of_ble_eq_true rfl) (Nat.le_of_ble_eq_true rfl) (Nat.le_of_ble_eq_true rfl) rfl d5_erase_97 (fun m3 hm3 => ?_)
          refine g_aload_n hK 0 rfl rfl d5_erase_100 ?_
          refine g_iload_n hK 1 rfl rfl d5_erase_101 ?_
          refine g_callVcm hK (rm := rm5_lookAt) (cb := 0) (sb := 0) (As := [.int (zi v1)]) (b := 1) (n := 1) (c5_lookAt K.2.1 hK.2.2.2.2.2.2.2.2.1 Z v1 m3 hv1) rfl (ci := 5) rfl (by decide) kc_1 q_513 q_515 qs_5_lookAt q_1 q_516 rfl (by decide +kernel) (by decide) (Nat.le_of_ble_eq_true rfl) (Nat.le_of_ble_eq_true rfl) (Nat.le_of_ble_eq_true rfl) rfl d5_erase_102 (fun m4 hm4 => ?_)
          refine g_aload_n hK 0 rfl rfl d5_erase_105 ?_
          refine g_getR hK zfin_5 (fa_5_13 kc_1) q_294 (r := 200) (by decide +kernel) d5_erase_106 ?_
          refine g_callVcm hK (rm := rm4_renderValues) (cb := 0) (sb := 0) (As := []) (b := 200) (n := 0) (c4_renderValues K.2.1 hK.2.2.2.2.2.2.2.2.1 Z  m4 ) rfl (ci := 4) rfl (by decide) kc_200 q_600 q_601 q_602 q_6 q_603 rfl (by decide +kernel) (by decide) (Nat.le_of_ble_eq_true rfl) (Nat.le_of_ble_eq_true rfl) (Nat.le_of_ble_eq_true rfl) rfl d5_erase_109 (fun m5 hm5 => ?_)
          refine g_aload_n hK 0 rfl rfl d5_erase_112 ?_
          refine g_getR hK zfin_5 (fa_5_7 kc_1) q_288 (r := 193) (by decide +kernel) d5_erase_113 ?_
          refine g_iload_n hK 1 rfl rfl d5_erase_116 ?_
          refine g_iload_n hK 2 rfl rfl d5_erase_117 ?_
          refine g_callVcm hK (rm := rm3_makeNotTyped) (cb := 0) (sb := 0) (As := [.int (zi v1), .int (zi v2)]) (b := 193) (n := 2) (c3_makeNotTyped K.2.1 hK.2.2.2.2.2.2.2.2.1 Z 193 v1 v2 m5 kc_193 hv1 hv2) rfl (ci := 3) rfl (by decide) kc_193 q_630 q_631 q_632 q_5 q_633 rfl (by decide +kernel) (by decide) (Nat.le_of_ble_eq_true rfl) (Nat.le_of_ble_eq_true rfl) (Nat.le_of_ble_eq_true rfl) rfl d5_erase_118 (fun m6 hm6 => ?_)
          refine g_aload_n hK 0 rfl rfl d5_erase_121 ?_
          refine g_getR hK zfin_5 (fa_5_7 kc_1) q_288 (r := 193) (by decide +kernel) d5_erase_122 ?_
          refine g_iload_n hK 1 rfl rfl d5_erase_125 ?_
          refine g_iload_n hK 2 rfl rfl d5_erase_126 ?_
          refine g_aload_n hK 0 rfl rfl d5_erase_127 ?_
          refine g_getR hK zfin_5 (fa_5_13 kc_1) q_294 (r := 200) (by decide +kernel) d5_erase_128 ?_
          refine g_getR hK zfin_4 (fa_4_11 kc_200) q_250 (r := 207) (by decide +kernel) d5_erase_131 ?_
          refine g_iload_n hK 2 rfl rfl d5_erase_134 ?_
          refine g_sipush hK d5_erase_135 zks400 ?_
          refine g_imul hK d5_erase_138 (fun v6 hv6 => ?_)
          refine g_iload_n hK 3 rfl rfl d5_erase_139 ?_
          refine g_callVcm hK (rm := rm3_typeBehind) (cb := 0) (sb := 0) (As := [.int (zi v1), .int (zi v2), .ref (Z.2.2.1 + 207), .int (zi v6), .int (zi v4)]) (b := 193) (n := 5) (c3_typeBehind K.2.1 hK.2.2.2.2.2.2.2.2.1 Z 193 v1 v2 207 v6 v4 m6 kc_193 hv1 hv2 kc_207 hv6 hv4) rfl (ci := 3) rfl (by decide) kc_193 q_634 q_635 q_636 q_5 q_637 rfl (by decide +kernel) (by decide) (Nat.le_of_ble_eq_true rfl) (Nat.le_of_ble_eq_true rfl) (Nat.le_of_ble_eq_true rfl) rfl d5_erase_140 (fun m7 hm7 => ?_)
          refine g_iload_n hK 3 rfl rfl d5_erase_143 ?_
          exact g_iret hK hv4 rfl rfl d5_erase_144
        · refine g_aload_n hK 0 rfl rfl d5_erase_90 ?_
          refine g_iconst hK d5_erase_91 zki3 ?_
          refine g_callVcl hK (mk := mkI) (rm := rm5_refuse) (cb := 0) (sb := 0) (As := [.int (zi 3)]) (b := 1) (n := 1) (c5_refuse K.2.1 hK.2.2.2.2.2.2.2.2.1 Z 3 m2 zc3) rfl (ci := 5) rfl (by decide) kc_1 q_509 q_511 qs_5_refuse q_1 q_512 rfl (by decide +kernel) (by decide) (Nat.le_of_ble_eq_true rfl) (Nat.le_of_ble_eq_true rfl) (Nat.le_of_ble_eq_true rfl) rfl d5_erase_92 (fun r2 m8 hr2 hpr2 => ?_)
          exact g_iret hK hpr2 rfl rfl d5_erase_95
      · refine g_aload_n hK 0 rfl rfl d5_erase_70 ?_
        refine g_iconst hK d5_erase_71 zki4 ?_
        refine g_callVcl hK (mk := mkI) (rm := rm5_refuse) (cb := 0) (sb := 0) (As := [.int (zi 4)]) (b := 1) (n := 1) (c5_refuse K.2.1 hK.2.2.2.2.2.2.2.2.1 Z 4 m1 zc4) rfl (ci := 5) rfl (by decide) kc_1 q_509 q_511 qs_5_refuse q_1 q_512 rfl (by decide +kernel) (by decide) (Nat.le_of_ble_eq_true rfl) (Nat.le_of_ble_eq_true rfl) (Nat.le_of_ble_eq_true rfl) rfl d5_erase_72 (fun r3 m9 hr3 hpr3 => ?_)
        exact g_iret hK hpr3 rfl rfl d5_erase_75
    · refine g_aload_n hK 0 rfl rfl d5_erase_58 ?_
      refine g_iconst hK d5_erase_59 zki5 ?_
      refine g_callVcl hK (mk := mkI) (rm := rm5_refuse) (cb := 0) (sb := 0) (As := [.int (zi 5)]) (b := 1) (n := 1) (c5_refuse K.2.1 hK.2.2.2.2.2.2.2.2.1 Z 5 m1 zc5) rfl (ci := 5) rfl (by decide) kc_1 q_509 q_511 qs_5_refuse q_1 q_512 rfl (by decide +kernel) (by decide) (Nat.le_of_ble_eq_true rfl) (Nat.le_of_ble_eq_true rfl) (Nat.le_of_ble_eq_true rfl) rfl d5_erase_60 (fun r4 m10 hr4 hpr4 => ?_)
      exact g_iret hK hpr4 rfl rfl d5_erase_63
  · refine g_aload_n hK 0 rfl rfl d5_erase_10 ?_
    refine g_iconst hK d5_erase_11 zki1 ?_
    refine g_callVcl hK (mk := mkI) (rm := rm5_refuse) (cb := 0) (sb := 0) (As := [.int (zi 1)]) (b := 1) (n := 1) (c5_refuse K.2.1 hK.2.2.2.2.2.2.2.2.1 Z 1 μ zc1) rfl (ci := 5) rfl (by decide) kc_1 q_509 q_511 qs_5_refuse q_1 q_512 rfl (by decide +kernel) (by decide) (Nat.le_of_ble_eq_true rfl) (Nat.le_of_ble_eq_true rfl) (Nat.le_of_ble_eq_true rfl) rfl d5_erase_12 (fun r5 m11 hr5 hpr5 => ?_)
    exact g_iret hK hpr5 rfl rfl d5_erase_15
set_option maxRecDepth 20000 in
theorem c5_reset (l : Launch) (hst : l.stackTraces = false) (Z : zZ) (μ : zM) : ∀ x, f5_reset μ = some x → zCt l Z (zΩ Z) y5_reset (zws (.code y5_reset b5_reset 3 (some .int))) rm5_reset [.ref (Z.2.2.1 + 1)] μ (ze2 mkI x) := by
  intro x h
  refine zCt.of (enc := (ze2 mkI)) h (by decide) hst (Nat.le_of_ble_eq_true rfl) (fun K hK0 hex hl _ => ?_)
  subst hl
  have hcx : zOk K Z b5_reset RX5 3 (some .int) 4 107 0 0 ∧ ∀ x ∈ K.2.2.2.2.2.2.2.2.2.exceptionTable.toList, False := ⟨hK0, hex⟩
  have hK := hcx.1
  show zG K Z (zΩ Z) (zF K Z (zΩ Z) (ze2 mkI)) 0 0 0 [(0, .ref (Z.2.2.1 + 1))] [] μ (f5_reset μ)
  unfold f5_reset
  refine g_aload_n hK 0 rfl rfl d5_reset_0 ?_
  refine g_getR hK zfin_5 (fa_5_7 kc_1) q_288 (r := 193) (by decide +kernel) d5_reset_1 ?_
  refine g_getI hK zfin_3 (fa_3_1 kc_193) q_186 d5_reset_4 (fun hf1 => ?_)
  refine g_if_ne hK hf1 (tgt := 16) (by decide) d5_reset_7 (fun _ => ?_) (fun _ => ?_)
  · refine g_aload_n hK 0 rfl rfl d5_reset_16 ?_
    refine g_getR hK zfin_5 (fa_5_7 kc_1) q_288 (r := 193) (by decide +kernel) d5_reset_17 ?_
    refine g_getI hK zfin_3 (fa_3_1 kc_193) q_186 d5_reset_20 (fun hf2 => ?_)
    refine g_iconst hK d5_reset_23 zki1 ?_
    refine g_isub hK d5_reset_24 (fun v1 hv1 => ?_)
    refine g_istore_n hK (lv2 := [(0, .ref (Z.2.2.1 + 1)), (1, .int (zi v1))]) [1, 0] rfl rfl (by decide) d5_reset_25 ?_
    refine g_aload_n hK 0 rfl rfl d5_reset_26 ?_
    refine g_getR hK zfin_5 (fa_5_7 kc_1) q_288 (r := 193) (by decide +kernel) d5_reset_27 ?_
    refine g_getR hK zfin_3 (fa_3_3 kc_193) q_190 (r := 195) (by decide +kernel) d5_reset_30 ?_
    refine g_iload_n hK 1 rfl rfl d5_reset_33 ?_
    refine g_iald hK kc_195 d5_reset_34 (fun _ hl1 => ?_)
    refine g_ltI hl1 (fun v2 hv2 => ?_)
    refine g_istore_n hK (lv2 := [(0, .ref (Z.2.2.1 + 1)), (1, .int (zi v1)), (2, .int (zi v2))]) [1, 2, 0] rfl rfl (by decide) d5_reset_35 ?_
    refine g_aload_n hK 0 rfl rfl d5_reset_36 ?_
    refine g_getR hK zfin_5 (fa_5_7 kc_1) q_288 (r := 193) (by decide +kernel) d5_reset_37 ?_
    refine g_iload_n hK 1 rfl rfl d5_reset_40 ?_
    refine g_iload_n hK 2 rfl rfl d5_reset_41 ?_
    refine g_callVco hK (mk := mkZ) (rm := rm3_isTyped) (cb := 0) (sb := 0) (As := [.int (zi v1), .int (zi v2)]) (b := 193) (n := 2) (c3_isTyped K.2.1 hK.2.2.2.2.2.2.2.2.1 Z 193 v1 v2 μ kc_193 hv1 hv2) rfl (ci := 3) rfl (by decide) kc_193 q_643 q_644 q_645 q_5 q_646 rfl (by decide +kernel) (by decide) (Nat.le_of_ble_eq_true rfl) (Nat.le_of_ble_eq_true rfl) (Nat.le_of_ble_eq_true rfl) rfl d5_reset_42 (fun r1 hr1 hpr1 => ?_)
    refine g_if_ne hK (zb_r r1) (tgt := 55) (by decide) d5_reset_45 (fun _ => ?_) (fun _ => ?_)
    · refine g_aload_n hK 0 rfl rfl d5_reset_55 ?_
      refine g_iload_n hK 1 rfl rfl d5_reset_56 ?_
      refine g_callVcm hK (rm := rm5_takeSession) (cb := 0) (sb := 0) (As := [.int (zi v1)]) (b := 1) (n := 1) (c5_takeSession K.2.1 hK.2.2.2.2.2.2.2.2.1 Z v1 μ hv1) rfl (ci := 5) rfl (by decide) kc_1 q_517 q_519 qs_5_takeSession q_1 q_520 rfl (by decide +kernel) (by decide) (Nat.le_of_ble_eq_true rfl) (Nat.le_of_ble_eq_true rfl) (Nat.le_of_ble_eq_true rfl) rfl d5_reset_57 (fun m1 hm1 => ?_)
      refine g_aload_n hK 0 rfl rfl d5_reset_60 ?_
      refine g_getR hK zfin_5 (fa_5_13 kc_1) q_294 (r := 200) (by decide +kernel) d5_reset_61 ?_
      refine g_iload_n hK 2 rfl rfl d5_reset_64 ?_
      refine g_callVcm hK (rm := rm4_supposeNotTyped) (cb := 0) (sb := 0) (As := [.int (zi v2)]) (b := 200) (n := 1) (c4_supposeNotTyped K.2.1 hK.2.2.2.2.2.2.2.2.1 Z v2 m1 hv2) rfl (ci := 4) rfl (by decide) kc_200 q_647 q_648 q_649 q_6 q_650 rfl (by decide +kernel) (by decide) (Nat.le_of_ble_eq_true rfl) (Nat.le_of_ble_eq_true rfl) (Nat.le_of_ble_eq_true rfl) rfl d5_reset_65 (fun m2 hm2 => ?_)
      refine g_aload_n hK 0 rfl rfl d5_reset_68 ?_
      refine g_getR hK zfin_5 (fa_5_13 kc_1) q_294 (r := 200) (by decide +kernel) d5_reset_69 ?_
      refine g_callVcm hK (rm := rm4_measure) (cb := 0) (sb := 0) (As := []) (b := 200) (n := 0) (c4_measure K.2.1 hK.2.2.2.2.2.2.2.2.1 Z  m2 ) rfl (ci := 4) rfl (by decide) kc_200 q_532 q_533 q_534 q_6 q_535 rfl (by decide +kernel) (by decide) (Nat.le_of_ble_eq_true rfl) (Nat.le_of_ble_eq_true rfl) (Nat.le_of_ble_eq_true rfl) rfl d5_reset_72 (fun m3 hm3 => ?_)
      refine g_aload_n hK 0 rfl rfl d5_reset_75 ?_
      refine g_getR hK zfin_5 (fa_5_13 kc_1) q_294 (r := 200) (by decide +kernel) d5_reset_76 ?_
      refine g_getL hK zfin_4 (fa_4_8 kc_200) q_244 d5_reset_79 (fun hf3 => ?_)
      refine g_ldc2 hK (v := 400) q_589 d5_reset_82 ?_
      refine g_lcmp hK d5_reset_85 hf3 zcL400 (fun v3 hv3 => ?_)
      refine g_if_le hK hv3 (tgt := 95) (by decide) d5_reset_86 (fun _ => ?_) (fun _ => ?_)
      · refine g_aload_n hK 0 rfl rfl d5_reset_95 ?_
        refine g_callVcm hK (rm := rm5_keepForUndo) (cb := 0) (sb := 0) (As := []) (b := 1) (n := 0) (c5_keepForUndo K.2.1 hK.2.2.2.2.2.2.2.2.1 Z  m3 ) rfl (ci := 5) rfl (by decide) kc_1 q_590 q_592 qs_5_keepForUndo q_1 q_593 rfl (by decide +kernel) (by decide) (Nat.le_of_ble_eq_true rfl) (Nat.le_of_ble_eq_true rfl) (Nat.le_of_ble_eq_true rfl) rfl d5_reset_96 (fun m4 hm4 => ?_)
        refine g_aload_n hK 0 rfl rfl d5_reset_99 ?_
        refine g_getR hK zfin_5 (fa_5_7 kc_1) q_288 (r := 193) (by decide +kernel) d5_reset_100 ?_
        refine g_iload_n hK 1 rfl rfl d5_reset_103 ?_
        refine g_iload_n hK 2 rfl rfl d5_reset_104 ?_
        refine g_callVcm hK (rm := rm3_makeNotTyped) (cb := 0) (sb := 0) (As := [.int (zi v1), .int (zi v2)]) (b := 193) (n := 2) (c3_makeNotTyped K.2.1 hK.2.2.2.2.2.2.2.2.1 Z 193 v1 v2 m4 kc_193 hv1 hv2) rfl (ci := 3) rfl (by decide) kc_193 q_630 q_631 q_632 q_5 q_633 rfl (by decide +kernel) (by decide) (Nat.le_of_ble_eq_true rfl) (Nat.le_of_ble_eq_true rfl) (Nat.le_of_ble_eq_true rfl) rfl d5_reset_105 (fun m5 hm5 => ?_)
        refine g_aload_n hK 0 rfl rfl d5_reset_108 ?_
        refine g_getR hK zfin_5 (fa_5_13 kc_1) q_294 (r := 200) (by decide +kernel) d5_reset_109 ?_
        refine g_getR hK zfin_4 (fa_4_7 kc_200) q_242 (r := 205) (by decide +kernel) d5_reset_112 ?_
        refine g_iload_n hK 2 rfl rfl d5_reset_115 ?_
        refine g_lald hK kc_205 d5_reset_116 (fun _ hl2 => ?_)
        refine g_l2i hK d5_reset_117 (fun v4 hv4 => ?_)
        exact g_iret hK hv4 rfl rfl d5_reset_118
      · refine g_aload_n hK 0 rfl rfl d5_reset_89 ?_
        refine g_iconst hK d5_reset_90 zki3 ?_
        refine g_callVcl hK (mk := mkI) (rm := rm5_refuse) (cb := 0) (sb := 0) (As := [.int (zi 3)]) (b := 1) (n := 1) (c5_refuse K.2.1 hK.2.2.2.2.2.2.2.2.1 Z 3 m3 zc3) rfl (ci := 5) rfl (by decide) kc_1 q_509 q_511 qs_5_refuse q_1 q_512 rfl (by decide +kernel) (by decide) (Nat.le_of_ble_eq_true rfl) (Nat.le_of_ble_eq_true rfl) (Nat.le_of_ble_eq_true rfl) rfl d5_reset_91 (fun r2 m6 hr2 hpr2 => ?_)
        exact g_iret hK hpr2 rfl rfl d5_reset_94
    · refine g_aload_n hK 0 rfl rfl d5_reset_48 ?_
      refine g_bipush hK d5_reset_49 zkb6 ?_
      refine g_callVcl hK (mk := mkI) (rm := rm5_refuse) (cb := 0) (sb := 0) (As := [.int (zi 6)]) (b := 1) (n := 1) (c5_refuse K.2.1 hK.2.2.2.2.2.2.2.2.1 Z 6 μ zc6) rfl (ci := 5) rfl (by decide) kc_1 q_509 q_511 qs_5_refuse q_1 q_512 rfl (by decide +kernel) (by decide) (Nat.le_of_ble_eq_true rfl) (Nat.le_of_ble_eq_true rfl) (Nat.le_of_ble_eq_true rfl) rfl d5_reset_51 (fun r3 m7 hr3 hpr3 => ?_)
      exact g_iret hK hpr3 rfl rfl d5_reset_54
  · refine g_aload_n hK 0 rfl rfl d5_reset_10 ?_
    refine g_iconst hK d5_reset_11 zki1 ?_
    refine g_callVcl hK (mk := mkI) (rm := rm5_refuse) (cb := 0) (sb := 0) (As := [.int (zi 1)]) (b := 1) (n := 1) (c5_refuse K.2.1 hK.2.2.2.2.2.2.2.2.1 Z 1 μ zc1) rfl (ci := 5) rfl (by decide) kc_1 q_509 q_511 qs_5_refuse q_1 q_512 rfl (by decide +kernel) (by decide) (Nat.le_of_ble_eq_true rfl) (Nat.le_of_ble_eq_true rfl) (Nat.le_of_ble_eq_true rfl) rfl d5_reset_12 (fun r4 m8 hr4 hpr4 => ?_)
    exact g_iret hK hpr4 rfl rfl d5_reset_15
set_option maxRecDepth 20000 in
theorem c5_next (l : Launch) (hst : l.stackTraces = false) (Z : zZ) (μ : zM) : ∀ x, f5_next μ = some x → zCt l Z (zΩ Z) y5_next (zws (.code y5_next b5_next 4 (some .int))) rm5_next [.ref (Z.2.2.1 + 1)] μ (ze2 mkI x) := by
  intro x h
  refine zCt.of (enc := (ze2 mkI)) h (by decide) hst (Nat.le_of_ble_eq_true rfl) (fun K hK0 hex hl _ => ?_)
  subst hl
  have hcx : zOk K Z b5_next RX5 4 (some .int) 6 157 0 0 ∧ ∀ x ∈ K.2.2.2.2.2.2.2.2.2.exceptionTable.toList, False := ⟨hK0, hex⟩
  have hK := hcx.1
  show zG K Z (zΩ Z) (zF K Z (zΩ Z) (ze2 mkI)) 0 0 0 [(0, .ref (Z.2.2.1 + 1))] [] μ (f5_next μ)
  unfold f5_next
  refine g_aload_n hK 0 rfl rfl d5_next_0 ?_
  refine g_getR hK zfin_5 (fa_5_7 kc_1) q_288 (r := 193) (by decide +kernel) d5_next_1 ?_
  refine g_getI hK zfin_3 (fa_3_1 kc_193) q_186 d5_next_4 (fun hf1 => ?_)
  refine g_if_ne hK hf1 (tgt := 16) (by decide) d5_next_7 (fun _ => ?_) (fun _ => ?_)
  · refine g_aload_n hK 0 rfl rfl d5_next_16 ?_
    refine g_getR hK zfin_5 (fa_5_7 kc_1) q_288 (r := 193) (by decide +kernel) d5_next_17 ?_
    refine g_getI hK zfin_3 (fa_3_1 kc_193) q_186 d5_next_20 (fun hf2 => ?_)
    refine g_iconst hK d5_next_23 zki1 ?_
    refine g_isub hK d5_next_24 (fun v1 hv1 => ?_)
    refine g_istore_n hK (lv2 := [(0, .ref (Z.2.2.1 + 1)), (1, .int (zi v1))]) [1, 0] rfl rfl (by decide) d5_next_25 ?_
    refine g_aload_n hK 0 rfl rfl d5_next_26 ?_
    refine g_iload_n hK 1 rfl rfl d5_next_27 ?_
    refine g_callVcm hK (rm := rm5_lookAt) (cb := 0) (sb := 0) (As := [.int (zi v1)]) (b := 1) (n := 1) (c5_lookAt K.2.1 hK.2.2.2.2.2.2.2.2.1 Z v1 μ hv1) rfl (ci := 5) rfl (by decide) kc_1 q_513 q_515 qs_5_lookAt q_1 q_516 rfl (by decide +kernel) (by decide) (Nat.le_of_ble_eq_true rfl) (Nat.le_of_ble_eq_true rfl) (Nat.le_of_ble_eq_true rfl) rfl d5_next_28 (fun m1 hm1 => ?_)
    refine g_aload_n hK 0 rfl rfl d5_next_31 ?_
    refine g_getR hK zfin_5 (fa_5_13 kc_1) q_294 (r := 200) (by decide +kernel) d5_next_32 ?_
    refine g_aload_n hK 0 rfl rfl d5_next_35 ?_
    refine g_getR hK zfin_5 (fa_5_7 kc_1) q_288 (r := 193) (by decide +kernel) d5_next_36 ?_
    refine g_getR hK zfin_3 (fa_3_3 kc_193) q_190 (r := 195) (by decide +kernel) d5_next_39 ?_
    refine g_iload_n hK 1 rfl rfl d5_next_42 ?_
    refine g_iald hK kc_195 d5_next_43 (fun _ hl1 => ?_)
    refine g_callVco hK (mk := mkI) (rm := rm4_placeOf) (cb := 0) (sb := 0) (As := [.int (zi (zI m1 195 (zx v1)))]) (b := 200) (n := 1) (c4_placeOf K.2.1 hK.2.2.2.2.2.2.2.2.1 Z (zI m1 195 (zx v1)) m1 hl1) rfl (ci := 4) rfl (by decide) kc_200 q_655 q_656 q_657 q_6 q_658 rfl (by decide +kernel) (by decide) (Nat.le_of_ble_eq_true rfl) (Nat.le_of_ble_eq_true rfl) (Nat.le_of_ble_eq_true rfl) rfl d5_next_44 (fun r1 hr1 hpr1 => ?_)
    refine g_iconst hK d5_next_47 zki1 ?_
    refine g_iadd hK d5_next_48 (fun v2 hv2 => ?_)
    refine g_istore_n hK (lv2 := [(0, .ref (Z.2.2.1 + 1)), (1, .int (zi v1)), (2, .int (zi v2))]) [1, 2, 0] rfl rfl (by decide) d5_next_49 ?_
    refine g_iload_n hK 2 rfl rfl d5_next_50 ?_
    refine g_aload_n hK 0 rfl rfl d5_next_51 ?_
    refine g_getR hK zfin_5 (fa_5_13 kc_1) q_294 (r := 200) (by decide +kernel) d5_next_52 ?_
    refine g_getI hK zfin_4 (fa_4_10 kc_200) q_248 d5_next_55 (fun hf3 => ?_)
    refine g_icmp_ge hK hv2 hf3 (tgt := 93) (by decide) d5_next_58 (fun _ => ?_) (fun _ => ?_)
    · refine g_aload_n hK 0 rfl rfl d5_next_93 ?_
      refine g_iload_n hK 1 rfl rfl d5_next_94 ?_
      refine g_aload_n hK 0 rfl rfl d5_next_95 ?_
      refine g_getR hK zfin_5 (fa_5_13 kc_1) q_294 (r := 200) (by decide +kernel) d5_next_96 ?_
      refine g_getL hK zfin_4 (fa_4_8 kc_200) q_244 d5_next_99 (fun hf4 => ?_)
      refine g_callVcl hK (mk := mkI) (rm := rm5_reasonNotToEnd) (cb := 0) (sb := 0) (As := [.int (zi v1), .long (zl (zL m1 200 8))]) (b := 1) (n := 2) (c5_reasonNotToEnd K.2.1 hK.2.2.2.2.2.2.2.2.1 Z v1 (zL m1 200 8) m1 hv1 hf4) rfl (ci := 5) rfl (by decide) kc_1 q_659 q_661 qs_5_reasonNotToEnd q_1 q_662 rfl (by decide +kernel) (by decide) (Nat.le_of_ble_eq_true rfl) (Nat.le_of_ble_eq_true rfl) (Nat.le_of_ble_eq_true rfl) rfl d5_next_102 (fun r2 m2 hr2 hpr2 => ?_)
      refine g_istore_n hK (lv2 := [(0, .ref (Z.2.2.1 + 1)), (1, .int (zi v1)), (2, .int (zi v2)), (3, .int (zi r2))]) [1, 2, 3, 0] rfl rfl (by decide) d5_next_105 ?_
      refine g_iload_n hK 3 rfl rfl d5_next_106 ?_
      refine g_if_eq hK hpr2 (tgt := 116) (by decide) d5_next_107 (fun _ => ?_) (fun _ => ?_)
      · refine g_aload_n hK 0 rfl rfl d5_next_116 ?_
        refine g_callVcm hK (rm := rm5_keepForUndo) (cb := 0) (sb := 0) (As := []) (b := 1) (n := 0) (c5_keepForUndo K.2.1 hK.2.2.2.2.2.2.2.2.1 Z  m2 ) rfl (ci := 5) rfl (by decide) kc_1 q_590 q_592 qs_5_keepForUndo q_1 q_593 rfl (by decide +kernel) (by decide) (Nat.le_of_ble_eq_true rfl) (Nat.le_of_ble_eq_true rfl) (Nat.le_of_ble_eq_true rfl) rfl d5_next_117 (fun m3 hm3 => ?_)
        refine g_aload_n hK 0 rfl rfl d5_next_120 ?_
        refine g_callVcm hK (rm := rm5_endSession) (cb := 0) (sb := 0) (As := []) (b := 1) (n := 0) (c5_endSession K.2.1 hK.2.2.2.2.2.2.2.2.1 Z  m3 ) rfl (ci := 5) rfl (by decide) kc_1 q_666 q_668 qs_5_endSession q_1 q_669 rfl (by decide +kernel) (by decide) (Nat.le_of_ble_eq_true rfl) (Nat.le_of_ble_eq_true rfl) (Nat.le_of_ble_eq_true rfl) rfl d5_next_121 (fun m4 hm4 => ?_)
        refine g_aload_n hK 0 rfl rfl d5_next_124 ?_
        refine g_getR hK zfin_5 (fa_5_7 kc_1) q_288 (r := 193) (by decide +kernel) d5_next_125 ?_
        refine g_getI hK zfin_3 (fa_3_1 kc_193) q_186 d5_next_128 (fun hf5 => ?_)
        refine g_if_ne hK hf5 (tgt := 139) (by decide) d5_next_131 (fun _ => ?_) (fun _ => ?_)
        · refine g_aload_n hK 0 rfl rfl d5_next_139 ?_
          refine g_getR hK zfin_5 (fa_5_7 kc_1) q_288 (r := 193) (by decide +kernel) d5_next_140 ?_
          refine g_getR hK zfin_3 (fa_3_3 kc_193) q_190 (r := 195) (by decide +kernel) d5_next_143 ?_
          refine g_aload_n hK 0 rfl rfl d5_next_146 ?_
          refine g_getR hK zfin_5 (fa_5_7 kc_1) q_288 (r := 193) (by decide +kernel) d5_next_147 ?_
          refine g_getI hK zfin_3 (fa_3_1 kc_193) q_186 d5_next_150 (fun hf6 => ?_)
          refine g_iconst hK d5_next_153 zki1 ?_
          refine g_isub hK d5_next_154 (fun v3 hv3 => ?_)
          refine g_iald hK kc_195 d5_next_155 (fun _ hl2 => ?_)
          exact g_iret hK hl2 rfl rfl d5_next_156
        · refine g_bipush hK d5_next_134 zkb10 ?_
          refine g_goto hK (tgt := 156) (by decide) d5_next_136 ?_
          exact g_iret hK zc10 rfl rfl d5_next_156
      · refine g_aload_n hK 0 rfl rfl d5_next_110 ?_
        refine g_iload_n hK 3 rfl rfl d5_next_111 ?_
        refine g_callVcl hK (mk := mkI) (rm := rm5_refuse) (cb := 0) (sb := 0) (As := [.int (zi r2)]) (b := 1) (n := 1) (c5_refuse K.2.1 hK.2.2.2.2.2.2.2.2.1 Z r2 m2 hpr2) rfl (ci := 5) rfl (by decide) kc_1 q_509 q_511 qs_5_refuse q_1 q_512 rfl (by decide +kernel) (by decide) (Nat.le_of_ble_eq_true rfl) (Nat.le_of_ble_eq_true rfl) (Nat.le_of_ble_eq_true rfl) rfl d5_next_112 (fun r3 m5 hr3 hpr3 => ?_)
        exact g_iret hK hpr3 rfl rfl d5_next_115
    · refine g_aload_n hK 0 rfl rfl d5_next_61 ?_
      refine g_callVcm hK (rm := rm5_keepForUndo) (cb := 0) (sb := 0) (As := []) (b := 1) (n := 0) (c5_keepForUndo K.2.1 hK.2.2.2.2.2.2.2.2.1 Z  m1 ) rfl (ci := 5) rfl (by decide) kc_1 q_590 q_592 qs_5_keepForUndo q_1 q_593 rfl (by decide +kernel) (by decide) (Nat.le_of_ble_eq_true rfl) (Nat.le_of_ble_eq_true rfl) (Nat.le_of_ble_eq_true rfl) rfl d5_next_62 (fun m6 hm6 => ?_)
      refine g_aload_n hK 0 rfl rfl d5_next_65 ?_
      refine g_getR hK zfin_5 (fa_5_7 kc_1) q_288 (r := 193) (by decide +kernel) d5_next_66 ?_
      refine g_getR hK zfin_3 (fa_3_3 kc_193) q_190 (r := 195) (by decide +kernel) d5_next_69 ?_
      refine g_iload_n hK 1 rfl rfl d5_next_72 ?_
      refine g_aload_n hK 0 rfl rfl d5_next_73 ?_
      refine g_getR hK zfin_5 (fa_5_13 kc_1) q_294 (r := 200) (by decide +kernel) d5_next_74 ?_
      refine g_getR hK zfin_4 (fa_4_9 kc_200) q_246 (r := 206) (by decide +kernel) d5_next_77 ?_
      refine g_iload_n hK 2 rfl rfl d5_next_80 ?_
      refine g_iald hK kc_206 d5_next_81 (fun _ hl3 => ?_)
      refine g_iast hK hl3 kc_195 d5_next_82 (fun _ => ?_)
      refine g_ltM (fun m7 => ?_)
      refine g_aload_n hK 0 rfl rfl d5_next_83 ?_
      refine g_getR hK zfin_5 (fa_5_7 kc_1) q_288 (r := 193) (by decide +kernel) d5_next_84 ?_
      refine g_getR hK zfin_3 (fa_3_3 kc_193) q_190 (r := 195) (by decide +kernel) d5_next_87 ?_
      refine g_iload_n hK 1 rfl rfl d5_next_90 ?_
      refine g_iald hK kc_195 d5_next_91 (fun _ hl4 => ?_)
      exact g_iret hK hl4 rfl rfl d5_next_92
  · refine g_aload_n hK 0 rfl rfl d5_next_10 ?_
    refine g_iconst hK d5_next_11 zki1 ?_
    refine g_callVcl hK (mk := mkI) (rm := rm5_refuse) (cb := 0) (sb := 0) (As := [.int (zi 1)]) (b := 1) (n := 1) (c5_refuse K.2.1 hK.2.2.2.2.2.2.2.2.1 Z 1 μ zc1) rfl (ci := 5) rfl (by decide) kc_1 q_509 q_511 qs_5_refuse q_1 q_512 rfl (by decide +kernel) (by decide) (Nat.le_of_ble_eq_true rfl) (Nat.le_of_ble_eq_true rfl) (Nat.le_of_ble_eq_true rfl) rfl d5_next_12 (fun r4 m8 hr4 hpr4 => ?_)
    exact g_iret hK hpr4 rfl rfl d5_next_15
set_option maxRecDepth 20000 in
theorem c5_previous (l : Launch) (hst : l.stackTraces = false) (Z : zZ) (μ : zM) : ∀ x, f5_previous μ = some x → zCt l Z (zΩ Z) y5_previous (zws (.code y5_previous b5_previous 3 (some .int))) rm5_previous [.ref (Z.2.2.1 + 1)] μ (ze2 mkI x) := by
  intro x h
  refine zCt.of (enc := (ze2 mkI)) h (by decide) hst (Nat.le_of_ble_eq_true rfl) (fun K hK0 hex hl _ => ?_)
  subst hl
  have hcx : zOk K Z b5_previous RX5 3 (some .int) 5 128 0 0 ∧ ∀ x ∈ K.2.2.2.2.2.2.2.2.2.exceptionTable.toList, False := ⟨hK0, hex⟩
  have hK := hcx.1
  show zG K Z (zΩ Z) (zF K Z (zΩ Z) (ze2 mkI)) 0 0 0 [(0, .ref (Z.2.2.1 + 1))] [] μ (f5_previous μ)
  unfold f5_previous
  refine g_aload_n hK 0 rfl rfl d5_previous_0 ?_
  refine g_getR hK zfin_5 (fa_5_7 kc_1) q_288 (r := 193) (by decide +kernel) d5_previous_1 ?_
  refine g_getI hK zfin_3 (fa_3_1 kc_193) q_186 d5_previous_4 (fun hf1 => ?_)
  refine g_if_ne hK hf1 (tgt := 16) (by decide) d5_previous_7 (fun _ => ?_) (fun _ => ?_)
  · refine g_aload_n hK 0 rfl rfl d5_previous_16 ?_
    refine g_getR hK zfin_5 (fa_5_7 kc_1) q_288 (r := 193) (by decide +kernel) d5_previous_17 ?_
    refine g_getI hK zfin_3 (fa_3_1 kc_193) q_186 d5_previous_20 (fun hf2 => ?_)
    refine g_iconst hK d5_previous_23 zki1 ?_
    refine g_isub hK d5_previous_24 (fun v1 hv1 => ?_)
    refine g_istore_n hK (lv2 := [(0, .ref (Z.2.2.1 + 1)), (1, .int (zi v1))]) [1, 0] rfl rfl (by decide) d5_previous_25 ?_
    refine g_aload_n hK 0 rfl rfl d5_previous_26 ?_
    refine g_iload_n hK 1 rfl rfl d5_previous_27 ?_
    refine g_callVcm hK (rm := rm5_lookAt) (cb := 0) (sb := 0) (As := [.int (zi v1)]) (b := 1) (n := 1) (c5_lookAt K.2.1 hK.2.2.2.2.2.2.2.2.1 Z v1 μ hv1) rfl (ci := 5) rfl (by decide) kc_1 q_513 q_515 qs_5_lookAt q_1 q_516 rfl (by decide +kernel) (by decide) (Nat.le_of_ble_eq_true rfl) (Nat.le_of_ble_eq_true rfl) (Nat.le_of_ble_eq_true rfl) rfl d5_previous_28 (fun m1 hm1 => ?_)
    refine g_aload_n hK 0 rfl rfl d5_previous_31 ?_
    refine g_getR hK zfin_5 (fa_5_13 kc_1) q_294 (r := 200) (by decide +kernel) d5_previous_32 ?_
    refine g_aload_n hK 0 rfl rfl d5_previous_35 ?_
    refine g_getR hK zfin_5 (fa_5_7 kc_1) q_288 (r := 193) (by decide +kernel) d5_previous_36 ?_
    refine g_getR hK zfin_3 (fa_3_3 kc_193) q_190 (r := 195) (by decide +kernel) d5_previous_39 ?_
    refine g_iload_n hK 1 rfl rfl d5_previous_42 ?_
    refine g_iald hK kc_195 d5_previous_43 (fun _ hl1 => ?_)
    refine g_callVco hK (mk := mkI) (rm := rm4_placeOf) (cb := 0) (sb := 0) (As := [.int (zi (zI m1 195 (zx v1)))]) (b := 200) (n := 1) (c4_placeOf K.2.1 hK.2.2.2.2.2.2.2.2.1 Z (zI m1 195 (zx v1)) m1 hl1) rfl (ci := 4) rfl (by decide) kc_200 q_655 q_656 q_657 q_6 q_658 rfl (by decide +kernel) (by decide) (Nat.le_of_ble_eq_true rfl) (Nat.le_of_ble_eq_true rfl) (Nat.le_of_ble_eq_true rfl) rfl d5_previous_44 (fun r1 hr1 hpr1 => ?_)
    refine g_iconst hK d5_previous_47 zki1 ?_
    refine g_isub hK d5_previous_48 (fun v2 hv2 => ?_)
    refine g_istore_n hK (lv2 := [(0, .ref (Z.2.2.1 + 1)), (1, .int (zi v1)), (2, .int (zi v2))]) [1, 2, 0] rfl rfl (by decide) d5_previous_49 ?_
    refine g_iload_n hK 2 rfl rfl d5_previous_50 ?_
    refine g_if_ge hK hv2 (tgt := 61) (by decide) d5_previous_51 (fun _ => ?_) (fun _ => ?_)
    · refine g_aload_n hK 0 rfl rfl d5_previous_61 ?_
      refine g_callVcm hK (rm := rm5_keepForUndo) (cb := 0) (sb := 0) (As := []) (b := 1) (n := 0) (c5_keepForUndo K.2.1 hK.2.2.2.2.2.2.2.2.1 Z  m1 ) rfl (ci := 5) rfl (by decide) kc_1 q_590 q_592 qs_5_keepForUndo q_1 q_593 rfl (by decide +kernel) (by decide) (Nat.le_of_ble_eq_true rfl) (Nat.le_of_ble_eq_true rfl) (Nat.le_of_ble_eq_true rfl) rfl d5_previous_62 (fun m2 hm2 => ?_)
      refine g_aload_n hK 0 rfl rfl d5_previous_65 ?_
      refine g_getR hK zfin_5 (fa_5_7 kc_1) q_288 (r := 193) (by decide +kernel) d5_previous_66 ?_
      refine g_getR hK zfin_3 (fa_3_3 kc_193) q_190 (r := 195) (by decide +kernel) d5_previous_69 ?_
      refine g_iload_n hK 1 rfl rfl d5_previous_72 ?_
      refine g_aload_n hK 0 rfl rfl d5_previous_73 ?_
      refine g_getR hK zfin_5 (fa_5_13 kc_1) q_294 (r := 200) (by decide +kernel) d5_previous_74 ?_
      refine g_getR hK zfin_4 (fa_4_9 kc_200) q_246 (r := 206) (by decide +kernel) d5_previous_77 ?_
      refine g_iload_n hK 2 rfl rfl d5_previous_80 ?_
      refine g_iald hK kc_206 d5_previous_81 (fun _ hl2 => ?_)
      refine g_iast hK hl2 kc_195 d5_previous_82 (fun _ => ?_)
      refine g_ltM (fun m3 => ?_)
      refine g_aload_n hK 0 rfl rfl d5_previous_83 ?_
      refine g_getR hK zfin_5 (fa_5_7 kc_1) q_288 (r := 193) (by decide +kernel) d5_previous_84 ?_
      refine g_getR hK zfin_3 (fa_3_3 kc_193) q_190 (r := 195) (by decide +kernel) d5_previous_87 ?_
      refine g_iload_n hK 1 rfl rfl d5_previous_90 ?_
      refine g_iald hK kc_195 d5_previous_91 (fun _ hl3 => ?_)
      exact g_iret hK hl3 rfl rfl d5_previous_92
    · refine g_aload_n hK 0 rfl rfl d5_previous_54 ?_
      refine g_bipush hK d5_previous_55 zkb7 ?_
      refine g_callVcl hK (mk := mkI) (rm := rm5_refuse) (cb := 0) (sb := 0) (As := [.int (zi 7)]) (b := 1) (n := 1) (c5_refuse K.2.1 hK.2.2.2.2.2.2.2.2.1 Z 7 m1 zc7) rfl (ci := 5) rfl (by decide) kc_1 q_509 q_511 qs_5_refuse q_1 q_512 rfl (by decide +kernel) (by decide) (Nat.le_of_ble_eq_true rfl) (Nat.le_of_ble_eq_true rfl) (Nat.le_of_ble_eq_true rfl) rfl d5_previous_57 (fun r2 m4 hr2 hpr2 => ?_)
      exact g_iret hK hpr2 rfl rfl d5_previous_60
  · refine g_aload_n hK 0 rfl rfl d5_previous_10 ?_
    refine g_iconst hK d5_previous_11 zki1 ?_
    refine g_callVcl hK (mk := mkI) (rm := rm5_refuse) (cb := 0) (sb := 0) (As := [.int (zi 1)]) (b := 1) (n := 1) (c5_refuse K.2.1 hK.2.2.2.2.2.2.2.2.1 Z 1 μ zc1) rfl (ci := 5) rfl (by decide) kc_1 q_509 q_511 qs_5_refuse q_1 q_512 rfl (by decide +kernel) (by decide) (Nat.le_of_ble_eq_true rfl) (Nat.le_of_ble_eq_true rfl) (Nat.le_of_ble_eq_true rfl) rfl d5_previous_12 (fun r3 m5 hr3 hpr3 => ?_)
    exact g_iret hK hpr3 rfl rfl d5_previous_15
set_option maxRecDepth 20000 in
theorem c5_go (l : Launch) (hst : l.stackTraces = false) (Z : zZ) (a1 : Int) (μ : zM) (ha1 : zr a1) : ∀ x, f5_go a1 μ = some x → zCt l Z (zΩ Z) y5_go (zws (.code y5_go b5_go 4 (some .int))) rm5_go [.ref (Z.2.2.1 + 1), .int (zi a1)] μ (zeX mkI x) := by
  intro x h
  refine zCt.of (enc := (zeX mkI)) h (by decide) hst (Nat.le_of_ble_eq_true rfl) (fun K hK0 hex hl _ => ?_)
  subst hl
  have hcx : zOk K Z b5_go RX5 4 (some .int) 7 128 1 6 ∧ ∀ x ∈ K.2.2.2.2.2.2.2.2.2.exceptionTable.toList, False := ⟨hK0, hex⟩
  have hK := hcx.1
  show zG K Z (zΩ Z) (zF K Z (zΩ Z) (zeX mkI)) 1 6 0 [(0, .ref (Z.2.2.1 + 1)), (1, .int (zi a1))] [] μ (f5_go a1 μ)
  unfold f5_go
  refine g_iload_n hK 1 rfl rfl d5_go_0 ?_
  refine g_callScx (mk2 := mkI) hK (mk := mkV) (rm := rm5_requireField) (cb := 0) (sb := 0) hex (As := [.int (zi a1)]) (n := 1) (c5_requireField K.2.1 hK.2.2.2.2.2.2.2.2.1 Z a1 μ ha1) q_863 q_864 q_1 q_865 rfl (by decide +kernel) (by decide) (Nat.le_of_ble_eq_true rfl) (Nat.le_of_ble_eq_true rfl) (Nat.le_of_ble_eq_true rfl) rfl d5_go_1 (fun r1 m1 hr1 hpr1 => ?_)
  refine g_aload_n hK 0 rfl rfl d5_go_4 ?_
  refine g_getR hK zfin_5 (fa_5_7 kc_1) q_288 (r := 193) (by decide +kernel) d5_go_5 ?_
  refine g_getI hK zfin_3 (fa_3_1 kc_193) q_186 d5_go_8 (fun hf1 => ?_)
  refine g_if_ne hK hf1 (tgt := 20) (by decide) d5_go_11 (fun _ => ?_) (fun _ => ?_)
  · refine g_aload_n hK 0 rfl rfl d5_go_20 ?_
    refine g_getR hK zfin_5 (fa_5_7 kc_1) q_288 (r := 193) (by decide +kernel) d5_go_21 ?_
    refine g_getI hK zfin_3 (fa_3_1 kc_193) q_186 d5_go_24 (fun hf2 => ?_)
    refine g_iconst hK d5_go_27 zki1 ?_
    refine g_isub hK d5_go_28 (fun v1 hv1 => ?_)
    refine g_istore_n hK (lv2 := [(0, .ref (Z.2.2.1 + 1)), (1, .int (zi a1)), (2, .int (zi v1))]) [1, 2, 0] rfl rfl (by decide) d5_go_29 ?_
    refine g_aload_n hK 0 rfl rfl d5_go_30 ?_
    refine g_iload_n hK 2 rfl rfl d5_go_31 ?_
    refine g_callVcm hK (rm := rm5_lookAt) (cb := 0) (sb := 0) (As := [.int (zi v1)]) (b := 1) (n := 1) (c5_lookAt K.2.1 hK.2.2.2.2.2.2.2.2.1 Z v1 m1 hv1) rfl (ci := 5) rfl (by decide) kc_1 q_513 q_515 qs_5_lookAt q_1 q_516 rfl (by decide +kernel) (by decide) (Nat.le_of_ble_eq_true rfl) (Nat.le_of_ble_eq_true rfl) (Nat.le_of_ble_eq_true rfl) rfl d5_go_32 (fun m2 hm2 => ?_)
    refine g_aload_n hK 0 rfl rfl d5_go_35 ?_
    refine g_getR hK zfin_5 (fa_5_13 kc_1) q_294 (r := 200) (by decide +kernel) d5_go_36 ?_
    refine g_iload_n hK 1 rfl rfl d5_go_39 ?_
    refine g_callVco hK (mk := mkZ) (rm := rm4_isLive) (cb := 0) (sb := 0) (As := [.int (zi a1)]) (b := 200) (n := 1) (c4_isLive K.2.1 hK.2.2.2.2.2.2.2.2.1 Z a1 m2 ha1) rfl (ci := 4) rfl (by decide) kc_200 q_910 q_578 q_579 q_6 q_580 rfl (by decide +kernel) (by decide) (Nat.le_of_ble_eq_true rfl) (Nat.le_of_ble_eq_true rfl) (Nat.le_of_ble_eq_true rfl) rfl d5_go_40 (fun r2 hr2 hpr2 => ?_)
    refine g_if_ne hK (zb_r r2) (tgt := 53) (by decide) d5_go_43 (fun _ => ?_) (fun _ => ?_)
    · refine g_aload_n hK 0 rfl rfl d5_go_53 ?_
      refine g_getR hK zfin_5 (fa_5_7 kc_1) q_288 (r := 193) (by decide +kernel) d5_go_54 ?_
      refine g_getR hK zfin_3 (fa_3_3 kc_193) q_190 (r := 195) (by decide +kernel) d5_go_57 ?_
      refine g_iload_n hK 2 rfl rfl d5_go_60 ?_
      refine g_iald hK kc_195 d5_go_61 (fun _ hl1 => ?_)
      refine g_ltI hl1 (fun v2 hv2 => ?_)
      refine g_istore_n hK (lv2 := [(0, .ref (Z.2.2.1 + 1)), (1, .int (zi a1)), (2, .int (zi v1)), (3, .int (zi v2))]) [1, 2, 3, 0] rfl rfl (by decide) d5_go_62 ?_
      refine g_aload_n hK 0 rfl rfl d5_go_63 ?_
      refine g_callVcm hK (rm := rm5_keepForUndo) (cb := 0) (sb := 0) (As := []) (b := 1) (n := 0) (c5_keepForUndo K.2.1 hK.2.2.2.2.2.2.2.2.1 Z  m2 ) rfl (ci := 5) rfl (by decide) kc_1 q_590 q_592 qs_5_keepForUndo q_1 q_593 rfl (by decide +kernel) (by decide) (Nat.le_of_ble_eq_true rfl) (Nat.le_of_ble_eq_true rfl) (Nat.le_of_ble_eq_true rfl) rfl d5_go_64 (fun m3 hm3 => ?_)
      refine g_aload_n hK 0 rfl rfl d5_go_67 ?_
      refine g_getR hK zfin_5 (fa_5_7 kc_1) q_288 (r := 193) (by decide +kernel) d5_go_68 ?_
      refine g_getR hK zfin_3 (fa_3_3 kc_193) q_190 (r := 195) (by decide +kernel) d5_go_71 ?_
      refine g_iload_n hK 2 rfl rfl d5_go_74 ?_
      refine g_iload_n hK 1 rfl rfl d5_go_75 ?_
      refine g_iast hK ha1 kc_195 d5_go_76 (fun _ => ?_)
      refine g_ltM (fun m4 => ?_)
      refine g_iload_n hK 3 rfl rfl d5_go_77 ?_
      exact g_iret hK hv2 rfl rfl d5_go_78
    · refine g_aload_n hK 0 rfl rfl d5_go_46 ?_
      refine g_bipush hK d5_go_47 zkb8 ?_
      refine g_callVcl hK (mk := mkI) (rm := rm5_refuse) (cb := 0) (sb := 0) (As := [.int (zi 8)]) (b := 1) (n := 1) (c5_refuse K.2.1 hK.2.2.2.2.2.2.2.2.1 Z 8 m2 zc8) rfl (ci := 5) rfl (by decide) kc_1 q_509 q_511 qs_5_refuse q_1 q_512 rfl (by decide +kernel) (by decide) (Nat.le_of_ble_eq_true rfl) (Nat.le_of_ble_eq_true rfl) (Nat.le_of_ble_eq_true rfl) rfl d5_go_49 (fun r3 m5 hr3 hpr3 => ?_)
      exact g_iret hK hpr3 rfl rfl d5_go_52
  · refine g_aload_n hK 0 rfl rfl d5_go_14 ?_
    refine g_iconst hK d5_go_15 zki1 ?_
    refine g_callVcl hK (mk := mkI) (rm := rm5_refuse) (cb := 0) (sb := 0) (As := [.int (zi 1)]) (b := 1) (n := 1) (c5_refuse K.2.1 hK.2.2.2.2.2.2.2.2.1 Z 1 m1 zc1) rfl (ci := 5) rfl (by decide) kc_1 q_509 q_511 qs_5_refuse q_1 q_512 rfl (by decide +kernel) (by decide) (Nat.le_of_ble_eq_true rfl) (Nat.le_of_ble_eq_true rfl) (Nat.le_of_ble_eq_true rfl) rfl d5_go_16 (fun r4 m6 hr4 hpr4 => ?_)
    exact g_iret hK hpr4 rfl rfl d5_go_19
set_option maxRecDepth 20000 in
theorem c5_finish (l : Launch) (hst : l.stackTraces = false) (Z : zZ) (μ : zM) : ∀ x, f5_finish μ = some x → zCt l Z (zΩ Z) y5_finish (zws (.code y5_finish b5_finish 3 (some .int))) rm5_finish [.ref (Z.2.2.1 + 1)] μ (ze2 mkI x) := by
  intro x h
  refine zCt.of (enc := (ze2 mkI)) h (by decide) hst (Nat.le_of_ble_eq_true rfl) (fun K hK0 hex hl _ => ?_)
  subst hl
  have hcx : zOk K Z b5_finish RX5 3 (some .int) 6 157 0 0 ∧ ∀ x ∈ K.2.2.2.2.2.2.2.2.2.exceptionTable.toList, False := ⟨hK0, hex⟩
  have hK := hcx.1
  show zG K Z (zΩ Z) (zF K Z (zΩ Z) (ze2 mkI)) 0 0 0 [(0, .ref (Z.2.2.1 + 1))] [] μ (f5_finish μ)
  unfold f5_finish
  refine g_aload_n hK 0 rfl rfl d5_finish_0 ?_
  refine g_getR hK zfin_5 (fa_5_7 kc_1) q_288 (r := 193) (by decide +kernel) d5_finish_1 ?_
  refine g_getI hK zfin_3 (fa_3_1 kc_193) q_186 d5_finish_4 (fun hf1 => ?_)
  refine g_if_ne hK hf1 (tgt := 16) (by decide) d5_finish_7 (fun _ => ?_) (fun _ => ?_)
  · refine g_aload_n hK 0 rfl rfl d5_finish_16 ?_
    refine g_getR hK zfin_5 (fa_5_7 kc_1) q_288 (r := 193) (by decide +kernel) d5_finish_17 ?_
    refine g_getI hK zfin_3 (fa_3_1 kc_193) q_186 d5_finish_20 (fun hf2 => ?_)
    refine g_iconst hK d5_finish_23 zki1 ?_
    refine g_isub hK d5_finish_24 (fun v1 hv1 => ?_)
    refine g_istore_n hK (lv2 := [(0, .ref (Z.2.2.1 + 1)), (1, .int (zi v1))]) [1, 0] rfl rfl (by decide) d5_finish_25 ?_
    refine g_aload_n hK 0 rfl rfl d5_finish_26 ?_
    refine g_iload_n hK 1 rfl rfl d5_finish_27 ?_
    refine g_aload_n hK 0 rfl rfl d5_finish_28 ?_
    refine g_iload_n hK 1 rfl rfl d5_finish_29 ?_
    refine g_callVcl hK (mk := mkL) (rm := rm5_measuredText) (cb := 0) (sb := 0) (As := [.int (zi v1)]) (b := 1) (n := 1) (c5_measuredText K.2.1 hK.2.2.2.2.2.2.2.2.1 Z v1 μ hv1) rfl (ci := 5) rfl (by decide) kc_1 q_670 q_672 qs_5_measuredText q_1 q_673 rfl (by decide +kernel) (by decide) (Nat.le_of_ble_eq_true rfl) (Nat.le_of_ble_eq_true rfl) (Nat.le_of_ble_eq_true rfl) rfl d5_finish_30 (fun r1 m1 hr1 hpr1 => ?_)
    refine g_callVcl hK (mk := mkI) (rm := rm5_reasonNotToEnd) (cb := 0) (sb := 0) (As := [.int (zi v1), .long (zl r1)]) (b := 1) (n := 2) (c5_reasonNotToEnd K.2.1 hK.2.2.2.2.2.2.2.2.1 Z v1 r1 m1 hv1 hpr1) rfl (ci := 5) rfl (by decide) kc_1 q_659 q_661 qs_5_reasonNotToEnd q_1 q_662 rfl (by decide +kernel) (by decide) (Nat.le_of_ble_eq_true rfl) (Nat.le_of_ble_eq_true rfl) (Nat.le_of_ble_eq_true rfl) rfl d5_finish_33 (fun r2 m2 hr2 hpr2 => ?_)
    refine g_istore_n hK (lv2 := [(0, .ref (Z.2.2.1 + 1)), (1, .int (zi v1)), (2, .int (zi r2))]) [1, 2, 0] rfl rfl (by decide) d5_finish_36 ?_
    refine g_iload_n hK 2 rfl rfl d5_finish_37 ?_
    refine g_if_eq hK hpr2 (tgt := 47) (by decide) d5_finish_38 (fun _ => ?_) (fun _ => ?_)
    · refine g_aload_n hK 0 rfl rfl d5_finish_47 ?_
      refine g_callVcm hK (rm := rm5_keepForUndo) (cb := 0) (sb := 0) (As := []) (b := 1) (n := 0) (c5_keepForUndo K.2.1 hK.2.2.2.2.2.2.2.2.1 Z  m2 ) rfl (ci := 5) rfl (by decide) kc_1 q_590 q_592 qs_5_keepForUndo q_1 q_593 rfl (by decide +kernel) (by decide) (Nat.le_of_ble_eq_true rfl) (Nat.le_of_ble_eq_true rfl) (Nat.le_of_ble_eq_true rfl) rfl d5_finish_48 (fun m3 hm3 => ?_)
      refine g_aload_n hK 0 rfl rfl d5_finish_51 ?_
      refine g_callVcm hK (rm := rm5_endSession) (cb := 0) (sb := 0) (As := []) (b := 1) (n := 0) (c5_endSession K.2.1 hK.2.2.2.2.2.2.2.2.1 Z  m3 ) rfl (ci := 5) rfl (by decide) kc_1 q_666 q_668 qs_5_endSession q_1 q_669 rfl (by decide +kernel) (by decide) (Nat.le_of_ble_eq_true rfl) (Nat.le_of_ble_eq_true rfl) (Nat.le_of_ble_eq_true rfl) rfl d5_finish_52 (fun m4 hm4 => ?_)
      refine g_aload_n hK 0 rfl rfl d5_finish_55 ?_
      refine g_getR hK zfin_5 (fa_5_7 kc_1) q_288 (r := 193) (by decide +kernel) d5_finish_56 ?_
      refine g_getI hK zfin_3 (fa_3_1 kc_193) q_186 d5_finish_59 (fun hf3 => ?_)
      exact g_iret hK hf3 rfl rfl d5_finish_62
    · refine g_aload_n hK 0 rfl rfl d5_finish_41 ?_
      refine g_iload_n hK 2 rfl rfl d5_finish_42 ?_
      refine g_callVcl hK (mk := mkI) (rm := rm5_refuse) (cb := 0) (sb := 0) (As := [.int (zi r2)]) (b := 1) (n := 1) (c5_refuse K.2.1 hK.2.2.2.2.2.2.2.2.1 Z r2 m2 hpr2) rfl (ci := 5) rfl (by decide) kc_1 q_509 q_511 qs_5_refuse q_1 q_512 rfl (by decide +kernel) (by decide) (Nat.le_of_ble_eq_true rfl) (Nat.le_of_ble_eq_true rfl) (Nat.le_of_ble_eq_true rfl) rfl d5_finish_43 (fun r3 m5 hr3 hpr3 => ?_)
      exact g_iret hK hpr3 rfl rfl d5_finish_46
  · refine g_aload_n hK 0 rfl rfl d5_finish_10 ?_
    refine g_iconst hK d5_finish_11 zki1 ?_
    refine g_callVcl hK (mk := mkI) (rm := rm5_refuse) (cb := 0) (sb := 0) (As := [.int (zi 1)]) (b := 1) (n := 1) (c5_refuse K.2.1 hK.2.2.2.2.2.2.2.2.1 Z 1 μ zc1) rfl (ci := 5) rfl (by decide) kc_1 q_509 q_511 qs_5_refuse q_1 q_512 rfl (by decide +kernel) (by decide) (Nat.le_of_ble_eq_true rfl) (Nat.le_of_ble_eq_true rfl) (Nat.le_of_ble_eq_true rfl) rfl d5_finish_12 (fun r4 m6 hr4 hpr4 => ?_)
    exact g_iret hK hpr4 rfl rfl d5_finish_15
set_option maxRecDepth 20000 in
theorem c5_drop (l : Launch) (hst : l.stackTraces = false) (Z : zZ) (μ : zM) : ∀ x, f5_drop μ = some x → zCt l Z (zΩ Z) y5_drop (zws (.code y5_drop b5_drop 1 (some .int))) rm5_drop [.ref (Z.2.2.1 + 1)] μ (ze2 mkI x) := by
  intro x h
  refine zCt.of (enc := (ze2 mkI)) h (by decide) hst (Nat.le_of_ble_eq_true rfl) (fun K hK0 hex hl _ => ?_)
  subst hl
  have hcx : zOk K Z b5_drop RX5 1 (some .int) 3 101 0 0 ∧ ∀ x ∈ K.2.2.2.2.2.2.2.2.2.exceptionTable.toList, False := ⟨hK0, hex⟩
  have hK := hcx.1
  show zG K Z (zΩ Z) (zF K Z (zΩ Z) (ze2 mkI)) 0 0 0 [(0, .ref (Z.2.2.1 + 1))] [] μ (f5_drop μ)
  unfold f5_drop
  refine g_aload_n hK 0 rfl rfl d5_drop_0 ?_
  refine g_getR hK zfin_5 (fa_5_7 kc_1) q_288 (r := 193) (by decide +kernel) d5_drop_1 ?_
  refine g_getI hK zfin_3 (fa_3_1 kc_193) q_186 d5_drop_4 (fun hf1 => ?_)
  refine g_if_ne hK hf1 (tgt := 16) (by decide) d5_drop_7 (fun _ => ?_) (fun _ => ?_)
  · refine g_aload_n hK 0 rfl rfl d5_drop_16 ?_
    refine g_callVcm hK (rm := rm5_keepForUndo) (cb := 0) (sb := 0) (As := []) (b := 1) (n := 0) (c5_keepForUndo K.2.1 hK.2.2.2.2.2.2.2.2.1 Z  μ ) rfl (ci := 5) rfl (by decide) kc_1 q_590 q_592 qs_5_keepForUndo q_1 q_593 rfl (by decide +kernel) (by decide) (Nat.le_of_ble_eq_true rfl) (Nat.le_of_ble_eq_true rfl) (Nat.le_of_ble_eq_true rfl) rfl d5_drop_17 (fun m1 hm1 => ?_)
    refine g_aload_n hK 0 rfl rfl d5_drop_20 ?_
    refine g_getR hK zfin_5 (fa_5_7 kc_1) q_288 (r := 193) (by decide +kernel) d5_drop_21 ?_
    refine g_dup hK d5_drop_24 rfl ?_
    refine g_getI hK zfin_3 (fa_3_1 kc_193) q_186 d5_drop_25 (fun hf2 => ?_)
    refine g_iconst hK d5_drop_28 zki1 ?_
    refine g_isub hK d5_drop_29 (fun v1 hv1 => ?_)
    refine g_putI hK zfin_3 (fa_3_1 kc_193) q_186 hv1 rfl (tyX3_ok 1 (by decide)) tyX3 tyX3_ok nmX3 d5_drop_30 ?_
    refine g_ltM (fun m2 => ?_)
    refine g_aload_n hK 0 rfl rfl d5_drop_33 ?_
    refine g_getR hK zfin_5 (fa_5_7 kc_1) q_288 (r := 193) (by decide +kernel) d5_drop_34 ?_
    refine g_getI hK zfin_3 (fa_3_1 kc_193) q_186 d5_drop_37 (fun hf3 => ?_)
    exact g_iret hK hf3 rfl rfl d5_drop_40
  · refine g_aload_n hK 0 rfl rfl d5_drop_10 ?_
    refine g_iconst hK d5_drop_11 zki1 ?_
    refine g_callVcl hK (mk := mkI) (rm := rm5_refuse) (cb := 0) (sb := 0) (As := [.int (zi 1)]) (b := 1) (n := 1) (c5_refuse K.2.1 hK.2.2.2.2.2.2.2.2.1 Z 1 μ zc1) rfl (ci := 5) rfl (by decide) kc_1 q_509 q_511 qs_5_refuse q_1 q_512 rfl (by decide +kernel) (by decide) (Nat.le_of_ble_eq_true rfl) (Nat.le_of_ble_eq_true rfl) (Nat.le_of_ble_eq_true rfl) rfl d5_drop_12 (fun r1 m3 hr1 hpr1 => ?_)
    exact g_iret hK hpr1 rfl rfl d5_drop_15
set_option maxRecDepth 20000 in
theorem p5_setOrder_15 {K : zK} {Z : zZ} (hcx : zOk K Z b5_setOrder RX5 3 (some .int) 3 101 0 0 ∧ ∀ x ∈ K.2.2.2.2.2.2.2.2.2.exceptionTable.toList, False) (a1 : Int) (ha1 : zr a1) (s0 : Int) (μ : zM) (hs0 : zr s0) : zG K Z (zΩ Z) (zF K Z (zΩ Z) (ze2 mkI)) 0 0 15 [(0, .ref (Z.2.2.1 + 1)), (1, .int (zi a1))] [.int (zi s0)] μ (f5_setOrder_15 a1 s0 μ) := by
  obtain ⟨hK, hex⟩ := id hcx
  unfold f5_setOrder_15
  refine g_istore_n hK (lv2 := [(0, .ref (Z.2.2.1 + 1)), (1, .int (zi a1)), (2, .int (zi s0))]) [1, 2, 0] rfl rfl (by decide) d5_setOrder_15 ?_
  refine g_aload_n hK 0 rfl rfl d5_setOrder_16 ?_
  refine g_callVcm hK (rm := rm5_keepForUndo) (cb := 0) (sb := 0) (As := []) (b := 1) (n := 0) (c5_keepForUndo K.2.1 hK.2.2.2.2.2.2.2.2.1 Z  μ ) rfl (ci := 5) rfl (by decide) kc_1 q_590 q_592 qs_5_keepForUndo q_1 q_593 rfl (by decide +kernel) (by decide) (Nat.le_of_ble_eq_true rfl) (Nat.le_of_ble_eq_true rfl) (Nat.le_of_ble_eq_true rfl) rfl d5_setOrder_17 (fun m1 hm1 => ?_)
  refine g_aload_n hK 0 rfl rfl d5_setOrder_20 ?_
  refine g_getR hK zfin_5 (fa_5_7 kc_1) q_288 (r := 193) (by decide +kernel) d5_setOrder_21 ?_
  refine g_iload_n hK 1 rfl rfl d5_setOrder_24 ?_
  refine g_putZ hK zfin_3 (fa_3_0 kc_193) q_184 rfl (tyX3_ok 0 (by decide)) tyX3 tyX3_ok nmX3 d5_setOrder_25 ?_
  refine g_ltM (fun m2 => ?_)
  refine g_iload_n hK 2 rfl rfl d5_setOrder_28 ?_
  exact g_iret hK hs0 rfl rfl d5_setOrder_29
set_option maxRecDepth 20000 in
theorem c5_setOrder (l : Launch) (hst : l.stackTraces = false) (Z : zZ) (a1 : Int) (μ : zM) (ha1 : zr a1) : ∀ x, f5_setOrder a1 μ = some x → zCt l Z (zΩ Z) y5_setOrder (zws (.code y5_setOrder b5_setOrder 3 (some .int))) rm5_setOrder [.ref (Z.2.2.1 + 1), .int (zi a1)] μ (ze2 mkI x) := by
  intro x h
  refine zCt.of (enc := (ze2 mkI)) h (by decide) hst (Nat.le_of_ble_eq_true rfl) (fun K hK0 hex hl _ => ?_)
  subst hl
  have hcx : zOk K Z b5_setOrder RX5 3 (some .int) 3 101 0 0 ∧ ∀ x ∈ K.2.2.2.2.2.2.2.2.2.exceptionTable.toList, False := ⟨hK0, hex⟩
  have hK := hcx.1
  show zG K Z (zΩ Z) (zF K Z (zΩ Z) (ze2 mkI)) 0 0 0 [(0, .ref (Z.2.2.1 + 1)), (1, .int (zi a1))] [] μ (f5_setOrder a1 μ)
  unfold f5_setOrder
  refine g_aload_n hK 0 rfl rfl d5_setOrder_0 ?_
  refine g_getR hK zfin_5 (fa_5_7 kc_1) q_288 (r := 193) (by decide +kernel) d5_setOrder_1 ?_
  refine g_getI hK zfin_3 (fa_3_0 kc_193) q_184 d5_setOrder_4 (fun hf1 => ?_)
  refine g_if_eq hK hf1 (tgt := 14) (by decide) d5_setOrder_7 (fun _ => ?_) (fun _ => ?_)
  · refine g_iconst hK d5_setOrder_14 zki0 ?_
    exact p5_setOrder_15 hcx a1 ha1  0 μ zc0
  · refine g_iconst hK d5_setOrder_10 zki1 ?_
    refine g_goto hK (tgt := 15) (by decide) d5_setOrder_11 ?_
    exact p5_setOrder_15 hcx a1 ha1  1 μ zc1
set_option maxRecDepth 20000 in
theorem c5_undo (l : Launch) (hst : l.stackTraces = false) (Z : zZ) (μ : zM) : ∀ x, f5_undo μ = some x → zCt l Z (zΩ Z) y5_undo (zws (.code y5_undo b5_undo 1 (some .int))) rm5_undo [.ref (Z.2.2.1 + 1)] μ (zeX mkI x) := by
  intro x h
  refine zCt.of (enc := (zeX mkI)) h (by decide) hst (Nat.le_of_ble_eq_true rfl) (fun K hK0 hex hl _ => ?_)
  subst hl
  have hcx : zOk K Z b5_undo RX5 1 (some .int) 6 90 1 6 ∧ ∀ x ∈ K.2.2.2.2.2.2.2.2.2.exceptionTable.toList, False := ⟨hK0, hex⟩
  have hK := hcx.1
  show zG K Z (zΩ Z) (zF K Z (zΩ Z) (zeX mkI)) 1 6 0 [(0, .ref (Z.2.2.1 + 1))] [] μ (f5_undo μ)
  unfold f5_undo
  refine g_aload_n hK 0 rfl rfl d5_undo_0 ?_
  refine g_getI hK zfin_5 (fa_5_10 kc_1) q_291 d5_undo_1 (fun hf1 => ?_)
  refine g_if_ne hK hf1 (tgt := 18) (by decide) d5_undo_4 (fun _ => ?_) (fun _ => ?_)
  · refine g_aload_n hK 0 rfl rfl d5_undo_18 ?_
    refine g_aload_n hK 0 rfl rfl d5_undo_19 ?_
    refine g_getI hK zfin_5 (fa_5_9 kc_1) q_290 d5_undo_20 (fun hf2 => ?_)
    refine g_bipush hK d5_undo_23 zkb8 ?_
    refine g_iadd hK d5_undo_25 (fun v1 hv1 => ?_)
    refine g_iconst hK d5_undo_26 zki1 ?_
    refine g_isub hK d5_undo_27 (fun v2 hv2 => ?_)
    refine g_bipush hK d5_undo_28 zkb8 ?_
    refine g_irem hK d5_undo_30 zc8 (by decide) (fun v3 hv3 => ?_)
    refine g_putI hK zfin_5 (fa_5_9 kc_1) q_290 hv3 rfl (tyX5_ok 9 (by decide)) tyX5 tyX5_ok nmX5 d5_undo_31 ?_
    refine g_ltM (fun m1 => ?_)
    refine g_aload_n hK 0 rfl rfl d5_undo_34 ?_
    refine g_dup hK d5_undo_35 rfl ?_
    refine g_getI hK zfin_5 (fa_5_10 kc_1) q_291 d5_undo_36 (fun hf3 => ?_)
    refine g_iconst hK d5_undo_39 zki1 ?_
    refine g_isub hK d5_undo_40 (fun v4 hv4 => ?_)
    refine g_putI hK zfin_5 (fa_5_10 kc_1) q_291 hv4 rfl (tyX5_ok 10 (by decide)) tyX5 tyX5_ok nmX5 d5_undo_41 ?_
    refine g_ltM (fun m2 => ?_)
    refine g_aload_n hK 0 rfl rfl d5_undo_44 ?_
    refine g_getR hK zfin_5 (fa_5_7 kc_1) q_288 (r := 193) (by decide +kernel) d5_undo_45 ?_
    refine g_aload_n hK 0 rfl rfl d5_undo_48 ?_
    refine g_getR hK zfin_5 (fa_5_8 kc_1) q_289 (r := 4) (by decide +kernel) d5_undo_49 ?_
    refine g_aload_n hK 0 rfl rfl d5_undo_52 ?_
    refine g_getI hK zfin_5 (fa_5_9 kc_1) q_290 d5_undo_53 (fun hf4 => ?_)
    refine g_aald104 hK (g := fun i => (222 + 7 * i)) kc_4 zel_4_el d5_undo_56 (fun hz1 => ?_)
    have he1 : zkd (222 + 7 * (zx (zI m2 1 9))) = 3 := zel_4_ek _ (zx_lt hz1)
    refine g_callVcm hK (rm := rm3_copyFrom) (cb := 1) (sb := 6) (As := [.ref (Z.2.2.1 + (222 + 7 * (zx (zI m2 1 9))))]) (b := 193) (n := 1) (c3_copyFrom K.2.1 hK.2.2.2.2.2.2.2.2.1 Z 193 (222 + 7 * (zx (zI m2 1 9))) m2 kc_193 he1) rfl (ci := 3) rfl (by decide) kc_193 q_594 q_595 q_596 q_5 q_597 rfl (by decide +kernel) (by decide) (Nat.le_of_ble_eq_true rfl) (Nat.le_of_ble_eq_true rfl) (Nat.le_of_ble_eq_true rfl) rfl d5_undo_57 (fun m3 hm3 => ?_)
    refine g_aload_n hK 0 rfl rfl d5_undo_60 ?_
    refine g_getI hK zfin_5 (fa_5_10 kc_1) q_291 d5_undo_61 (fun hf5 => ?_)
    exact g_iret hK hf5 rfl rfl d5_undo_64
  · exact g_throwW hK (i9 := 14) hex rfl (by decide) q_710 q_12 rfl th_5_70 th_5_70_g66 d5_undo_7 d5_undo_10 d5_undo_11 d5_undo_14 d5_undo_17 (by decide) (Nat.le_of_ble_eq_true rfl) (by decide) (by decide)
