set_option maxRecDepth 20000 in
theorem l7_defaults_4 {K : zK} {Z : zZ} (hcx : zOk K Z b7_defaults RX7 4 (some .int) 0 8 0 0 ∧ ∀ x ∈ K.2.2.2.2.2.2.2.2.2.exceptionTable.toList, False) (a1 : Int) (μ : zM) (ha1 : zr a1) : ∀ (i9 : Nat) (x2 : Int) (x3 : Int) (hx2 : zr x2) (hx3 : zr x3), zG K Z (zΩ Z) (zF K Z (zΩ Z) (zeP mkI μ)) 0 0 4 [(0, .ref (Z.2.2.1 + 292)), (1, .int (zi a1)), (2, .int (zi x2)), (3, .int (zi x3))] [] μ (zfx (f7_defaults_4 a1 μ) (fun _ _ => none) i9 x2 x3) := by
  intro i9
  induction i9 with
  | zero => intro x2 x3 hx2 hx3; exact g_none
  | succ i9 ih => intro x2 x3 hx2 hx3; exact p7_defaults_4 hcx a1 μ ha1  (zfx (f7_defaults_4 a1 μ) (fun _ _ => none) i9) ih x2 x3 hx2 hx3
set_option maxRecDepth 20000 in
theorem c7_defaults (l : Launch) (hst : l.stackTraces = false) (Z : zZ) (a1 : Int) (μ : zM) (ha1 : zr a1) : ∀ x, f7_defaults a1 μ = some x → zCt l Z (zΩ Z) y7_defaults (zws (.code y7_defaults b7_defaults 4 (some .int))) rm7_defaults [.ref (Z.2.2.1 + 292), .int (zi a1)] μ (zeP mkI μ x) := by
  intro x h
  refine zCt.of (enc := (zeP mkI μ)) h (by decide) hst (Nat.le_of_ble_eq_true rfl) (fun K hK0 hex hl _ => ?_)
  subst hl
  have hcx : zOk K Z b7_defaults RX7 4 (some .int) 0 8 0 0 ∧ ∀ x ∈ K.2.2.2.2.2.2.2.2.2.exceptionTable.toList, False := ⟨hK0, hex⟩
  have hK := hcx.1
  show zG K Z (zΩ Z) (zF K Z (zΩ Z) (zeP mkI μ)) 0 0 0 [(0, .ref (Z.2.2.1 + 292)), (1, .int (zi a1))] [] μ (f7_defaults a1 μ)
  unfold f7_defaults
  refine g_iconst hK d7_defaults_0 zki0 ?_
  refine g_istore_n hK (lv2 := [(0, .ref (Z.2.2.1 + 292)), (1, .int (zi a1)), (2, .int (zi 0))]) [1, 2, 0] rfl rfl (by decide) d7_defaults_1 ?_
  refine g_iconst hK d7_defaults_2 zki0 ?_
  refine g_istore_n hK (lv2 := [(0, .ref (Z.2.2.1 + 292)), (1, .int (zi a1)), (2, .int (zi 0)), (3, .int (zi 0))]) [1, 2, 3, 0] rfl rfl (by decide) d7_defaults_3 ?_
  exact l7_defaults_4 hcx a1 μ ha1  zFu 0 0  zc0 zc0
set_option maxRecDepth 20000 in
theorem p7_snippet_28 {K : zK} {Z : zZ} (hcx : zOk K Z b7_snippet RX7 3 (some .int) 2 51 0 0 ∧ ∀ x ∈ K.2.2.2.2.2.2.2.2.2.exceptionTable.toList, False) (a1 : Int) (a2 : Int) (ha1 : zr a1) (ha2 : zr a2) (s0 : Int) (μ : zM) (hs0 : zr s0) : zG K Z (zΩ Z) (zF K Z (zΩ Z) (ze2 mkI)) 0 0 28 [(0, .ref (Z.2.2.1 + 292)), (1, .int (zi a1)), (2, .int (zi a2))] [.int (zi s0), .ref (Z.2.2.1 + 292)] μ (f7_snippet_28 a1 a2 s0 μ) := by
  obtain ⟨hK, hex⟩ := id hcx
  unfold f7_snippet_28
  refine g_iconst hK d7_snippet_28 zki2 ?_
  refine g_callVcl hK (mk := mkZ) (rm := rm7_throwsIf) (cb := 0) (sb := 0) (As := [.int (zi s0), .int (zi 2)]) (b := 292) (n := 2) (c7_throwsIf K.2.1 hK.2.2.2.2.2.2.2.2.1 Z s0 2 μ hs0 zc2) rfl (ci := 7) rfl (by decide) kc_292 q_1317 q_1319 qs_7_throwsIf q_7 q_1320 rfl (by decide +kernel) (by decide) (Nat.le_of_ble_eq_true rfl) (Nat.le_of_ble_eq_true rfl) (Nat.le_of_ble_eq_true rfl) rfl d7_snippet_29 (fun r3 m3 hr3 hpr3 => ?_)
  refine g_if_eq hK (zb_r r3) (tgt := 37) (by decide) d7_snippet_32 (fun _ => ?_) (fun _ => ?_)
  · refine g_iload_n hK 2 rfl rfl d7_snippet_37 ?_
    refine g_case (fun hs0 => ?_) (fun hs0 => ?_)
    · refine g_tabIn hK (v := 0) (tgt := 72) ha2 hs0 (by decide) (by decide) rfl (by decide) d7_snippet_38 ?_
      refine g_aload_n hK 0 rfl rfl d7_snippet_72 ?_
      refine g_getM hK zfin_7 (fa_7_8 kc_292) q_1205 (w := 6) (by decide) d7_snippet_73 (fun hm1 => ?_)
      refine g_getRN hK zfin_6 (fa_6_3 hm1) qn_1143 (pt_6_lettersOf hm1) d7_snippet_76 ?_
      refine g_iload_n hK 1 rfl rfl d7_snippet_79 ?_
      refine g_iald hK (pt_6_lettersOf_k hm1) d7_snippet_80 (fun _ hl1 => ?_)
      exact g_iret hK hl1 rfl rfl d7_snippet_81
    refine g_case (fun hs1 => ?_) (fun hs1 => ?_)
    · refine g_tabIn hK (v := 1) (tgt := 82) ha2 hs1 (by decide) (by decide) rfl (by decide) d7_snippet_38 ?_
      refine g_aload_n hK 0 rfl rfl d7_snippet_82 ?_
      refine g_getM hK zfin_7 (fa_7_8 kc_292) q_1205 (w := 6) (by decide) d7_snippet_83 (fun hm2 => ?_)
      refine g_getRN hK zfin_6 (fa_6_6 hm2) qn_1149 (pt_6_occurrences hm2) d7_snippet_86 ?_
      refine g_iload_n hK 1 rfl rfl d7_snippet_89 ?_
      refine g_iald hK (pt_6_occurrences_k hm2) d7_snippet_90 (fun _ hl2 => ?_)
      exact g_iret hK hl2 rfl rfl d7_snippet_91
    refine g_case (fun hs2 => ?_) (fun hs2 => ?_)
    · refine g_tabIn hK (v := 2) (tgt := 92) ha2 hs2 (by decide) (by decide) rfl (by decide) d7_snippet_38 ?_
      refine g_aload_n hK 0 rfl rfl d7_snippet_92 ?_
      refine g_iload_n hK 1 rfl rfl d7_snippet_93 ?_
      refine g_callVco hK (mk := mkI) (rm := rm7_fieldsOf) (cb := 0) (sb := 0) (As := [.int (zi a1)]) (b := 292) (n := 1) (c7_fieldsOf K.2.1 hK.2.2.2.2.2.2.2.2.1 Z a1 m3 ha1) rfl (ci := 7) rfl (by decide) kc_292 q_1435 q_1437 qs_7_fieldsOf q_7 q_1438 rfl (by decide +kernel) (by decide) (Nat.le_of_ble_eq_true rfl) (Nat.le_of_ble_eq_true rfl) (Nat.le_of_ble_eq_true rfl) rfl d7_snippet_94 (fun r4 hr4 hpr4 => ?_)
      exact g_iret hK hpr4 rfl rfl d7_snippet_97
    refine g_case (fun hs3 => ?_) (fun hs3 => ?_)
    · refine g_tabIn hK (v := 3) (tgt := 98) ha2 hs3 (by decide) (by decide) rfl (by decide) d7_snippet_38 ?_
      refine g_aload_n hK 0 rfl rfl d7_snippet_98 ?_
      refine g_iload_n hK 1 rfl rfl d7_snippet_99 ?_
      refine g_callVco hK (mk := mkI) (rm := rm7_deepest) (cb := 0) (sb := 0) (As := [.int (zi a1)]) (b := 292) (n := 1) (c7_deepest K.2.1 hK.2.2.2.2.2.2.2.2.1 Z a1 m3 ha1) rfl (ci := 7) rfl (by decide) kc_292 q_1439 q_1441 qs_7_deepest q_7 q_1442 rfl (by decide +kernel) (by decide) (Nat.le_of_ble_eq_true rfl) (Nat.le_of_ble_eq_true rfl) (Nat.le_of_ble_eq_true rfl) rfl d7_snippet_100 (fun r5 hr5 hpr5 => ?_)
      exact g_iret hK hpr5 rfl rfl d7_snippet_103
    refine g_case (fun hs4 => ?_) (fun hs4 => ?_)
    · refine g_tabIn hK (v := 4) (tgt := 104) ha2 hs4 (by decide) (by decide) rfl (by decide) d7_snippet_38 ?_
      refine g_aload_n hK 0 rfl rfl d7_snippet_104 ?_
      refine g_iload_n hK 1 rfl rfl d7_snippet_105 ?_
      refine g_callVco hK (mk := mkI) (rm := rm7_defaults) (cb := 0) (sb := 0) (As := [.int (zi a1)]) (b := 292) (n := 1) (c7_defaults K.2.1 hK.2.2.2.2.2.2.2.2.1 Z a1 m3 ha1) rfl (ci := 7) rfl (by decide) kc_292 q_1444 q_1446 qs_7_defaults q_7 q_1447 rfl (by decide +kernel) (by decide) (Nat.le_of_ble_eq_true rfl) (Nat.le_of_ble_eq_true rfl) (Nat.le_of_ble_eq_true rfl) rfl d7_snippet_106 (fun r6 hr6 hpr6 => ?_)
      exact g_iret hK hpr6 rfl rfl d7_snippet_109
    refine g_tabOut hK (tgt := 110) ha2 (by omega) (by decide) d7_snippet_38 ?_
    refine g_aload_n hK 0 rfl rfl d7_snippet_110 ?_
    refine g_getM hK zfin_7 (fa_7_8 kc_292) q_1205 (w := 6) (by decide) d7_snippet_111 (fun hm3 => ?_)
    refine g_getRN hK zfin_6 (fa_6_4 hm3) qn_1145 (pt_6_from hm3) d7_snippet_114 ?_
    refine g_iload_n hK 1 rfl rfl d7_snippet_117 ?_
    refine g_iconst hK d7_snippet_118 zki1 ?_
    refine g_iadd hK d7_snippet_119 (fun v1 hv1 => ?_)
    refine g_iald hK (pt_6_from_k hm3) d7_snippet_120 (fun _ hl3 => ?_)
    refine g_aload_n hK 0 rfl rfl d7_snippet_121 ?_
    refine g_getM hK zfin_7 (fa_7_8 kc_292) q_1205 (w := 6) (by decide) d7_snippet_122 (fun hm4 => ?_)
    refine g_getRN hK zfin_6 (fa_6_4 hm4) qn_1145 (pt_6_from hm4) d7_snippet_125 ?_
    refine g_iload_n hK 1 rfl rfl d7_snippet_128 ?_
    refine g_iald hK (pt_6_from_k hm4) d7_snippet_129 (fun _ hl4 => ?_)
    refine g_isub hK d7_snippet_130 (fun v2 hv2 => ?_)
    refine g_aload_n hK 0 rfl rfl d7_snippet_131 ?_
    refine g_getM hK zfin_7 (fa_7_8 kc_292) q_1205 (w := 6) (by decide) d7_snippet_132 (fun hm5 => ?_)
    refine g_getRN hK zfin_6 (fa_6_6 hm5) qn_1149 (pt_6_occurrences hm5) d7_snippet_135 ?_
    refine g_iload_n hK 1 rfl rfl d7_snippet_138 ?_
    refine g_iald hK (pt_6_occurrences_k hm5) d7_snippet_139 (fun _ hl5 => ?_)
    refine g_isub hK d7_snippet_140 (fun v3 hv3 => ?_)
    refine g_aload_n hK 0 rfl rfl d7_snippet_141 ?_
    refine g_iload_n hK 1 rfl rfl d7_snippet_142 ?_
    refine g_callVco hK (mk := mkI) (rm := rm7_defaults) (cb := 0) (sb := 0) (As := [.int (zi a1)]) (b := 292) (n := 1) (c7_defaults K.2.1 hK.2.2.2.2.2.2.2.2.1 Z a1 m3 ha1) rfl (ci := 7) rfl (by decide) kc_292 q_1444 q_1446 qs_7_defaults q_7 q_1447 rfl (by decide +kernel) (by decide) (Nat.le_of_ble_eq_true rfl) (Nat.le_of_ble_eq_true rfl) (Nat.le_of_ble_eq_true rfl) rfl d7_snippet_143 (fun r7 hr7 hpr7 => ?_)
    refine g_isub hK d7_snippet_146 (fun v4 hv4 => ?_)
    exact g_iret hK hv4 rfl rfl d7_snippet_147
  · refine g_iconst hK d7_snippet_35 zki0 ?_
    exact g_iret hK zc0 rfl rfl d7_snippet_36
set_option maxRecDepth 20000 in
theorem c7_snippet (l : Launch) (hst : l.stackTraces = false) (Z : zZ) (a1 : Int) (a2 : Int) (μ : zM) (ha1 : zr a1) (ha2 : zr a2) : ∀ x, f7_snippet a1 a2 μ = some x → zCt l Z (zΩ Z) y7_snippet (zws (.code y7_snippet b7_snippet 3 (some .int))) rm7_snippet [.ref (Z.2.2.1 + 292), .int (zi a1), .int (zi a2)] μ (ze2 mkI x) := by
  intro x h
  refine zCt.of (enc := (ze2 mkI)) h (by decide) hst (Nat.le_of_ble_eq_true rfl) (fun K hK0 hex hl _ => ?_)
  subst hl
  have hcx : zOk K Z b7_snippet RX7 3 (some .int) 2 51 0 0 ∧ ∀ x ∈ K.2.2.2.2.2.2.2.2.2.exceptionTable.toList, False := ⟨hK0, hex⟩
  have hK := hcx.1
  show zG K Z (zΩ Z) (zF K Z (zΩ Z) (ze2 mkI)) 0 0 0 [(0, .ref (Z.2.2.1 + 292)), (1, .int (zi a1)), (2, .int (zi a2))] [] μ (f7_snippet a1 a2 μ)
  unfold f7_snippet
  refine g_aload_n hK 0 rfl rfl d7_snippet_0 ?_
  refine g_iconst hK d7_snippet_1 zki0 ?_
  refine g_putI hK zfin_7 (fa_7_0 kc_292) q_1197 zc0 rfl (tyX7_ok 0 (by decide)) tyX7 tyX7_ok nmX7 d7_snippet_2 ?_
  refine g_ltM (fun m1 => ?_)
  refine g_aload_n hK 0 rfl rfl d7_snippet_5 ?_
  refine g_iload_n hK 1 rfl rfl d7_snippet_6 ?_
  refine g_callVcl hK (mk := mkZ) (rm := rm7_noSnippet) (cb := 0) (sb := 0) (As := [.int (zi a1)]) (b := 292) (n := 1) (c7_noSnippet K.2.1 hK.2.2.2.2.2.2.2.2.1 Z a1 m1 ha1) rfl (ci := 7) rfl (by decide) kc_292 q_1431 q_1433 qs_7_noSnippet q_7 q_1434 rfl (by decide +kernel) (by decide) (Nat.le_of_ble_eq_true rfl) (Nat.le_of_ble_eq_true rfl) (Nat.le_of_ble_eq_true rfl) rfl d7_snippet_7 (fun r1 m2 hr1 hpr1 => ?_)
  refine g_if_ne hK (zb_r r1) (tgt := 35) (by decide) d7_snippet_10 (fun _ => ?_) (fun _ => ?_)
  · refine g_iconst hK d7_snippet_35 zki0 ?_
    exact g_iret hK zc0 rfl rfl d7_snippet_36
  · refine g_aload_n hK 0 rfl rfl d7_snippet_13 ?_
    refine g_iload_n hK 2 rfl rfl d7_snippet_14 ?_
    refine g_iconst hK d7_snippet_15 zki0 ?_
    refine g_iconst hK d7_snippet_16 zki5 ?_
    refine g_callSco hK (mk := mkZ) (rm := rm7_within) (cb := 0) (sb := 0) (As := [.int (zi a2), .int (zi 0), .int (zi 5)]) (n := 3) (c7_within K.2.1 hK.2.2.2.2.2.2.2.2.1 Z a2 0 5 m2 ha2 zc0 zc5) q_1344 q_1345 q_7 q_1346 rfl (by decide +kernel) (by decide) (Nat.le_of_ble_eq_true rfl) (Nat.le_of_ble_eq_true rfl) (Nat.le_of_ble_eq_true rfl) rfl d7_snippet_17 (fun r2 hr2 hpr2 => ?_)
    refine g_if_ne hK (zb_r r2) (tgt := 27) (by decide) d7_snippet_20 (fun _ => ?_) (fun _ => ?_)
    · refine g_iconst hK d7_snippet_27 zki0 ?_
      exact p7_snippet_28 hcx a1 a2 ha1 ha2  0 m2 zc0
    · refine g_iconst hK d7_snippet_23 zki1 ?_
      refine g_goto hK (tgt := 28) (by decide) d7_snippet_24 ?_
      exact p7_snippet_28 hcx a1 a2 ha1 ha2  1 m2 zc1
set_option maxRecDepth 20000 in
theorem c7_letter (l : Launch) (hst : l.stackTraces = false) (Z : zZ) (a1 : Int) (a2 : Int) (μ : zM) (ha1 : zr a1) (ha2 : zr a2) : ∀ x, f7_letter a1 a2 μ = some x → zCt l Z (zΩ Z) y7_letter (zws (.code y7_letter b7_letter 3 (some .int))) rm7_letter [.ref (Z.2.2.1 + 292), .int (zi a1), .int (zi a2)] μ (ze2 mkI x) := by
  intro x h
  refine zCt.of (enc := (ze2 mkI)) h (by decide) hst (Nat.le_of_ble_eq_true rfl) (fun K hK0 hex hl _ => ?_)
  subst hl
  have hcx : zOk K Z b7_letter RX7 3 (some .int) 2 51 0 0 ∧ ∀ x ∈ K.2.2.2.2.2.2.2.2.2.exceptionTable.toList, False := ⟨hK0, hex⟩
  have hK := hcx.1
  show zG K Z (zΩ Z) (zF K Z (zΩ Z) (ze2 mkI)) 0 0 0 [(0, .ref (Z.2.2.1 + 292)), (1, .int (zi a1)), (2, .int (zi a2))] [] μ (f7_letter a1 a2 μ)
  unfold f7_letter
  refine g_aload_n hK 0 rfl rfl d7_letter_0 ?_
  refine g_iconst hK d7_letter_1 zki0 ?_
  refine g_putI hK zfin_7 (fa_7_0 kc_292) q_1197 zc0 rfl (tyX7_ok 0 (by decide)) tyX7 tyX7_ok nmX7 d7_letter_2 ?_
  refine g_ltM (fun m1 => ?_)
  refine g_aload_n hK 0 rfl rfl d7_letter_5 ?_
  refine g_iload_n hK 1 rfl rfl d7_letter_6 ?_
  refine g_callVcl hK (mk := mkZ) (rm := rm7_noSnippet) (cb := 0) (sb := 0) (As := [.int (zi a1)]) (b := 292) (n := 1) (c7_noSnippet K.2.1 hK.2.2.2.2.2.2.2.2.1 Z a1 m1 ha1) rfl (ci := 7) rfl (by decide) kc_292 q_1431 q_1433 qs_7_noSnippet q_7 q_1434 rfl (by decide +kernel) (by decide) (Nat.le_of_ble_eq_true rfl) (Nat.le_of_ble_eq_true rfl) (Nat.le_of_ble_eq_true rfl) rfl d7_letter_7 (fun r1 m2 hr1 hpr1 => ?_)
  refine g_if_eq hK (zb_r r1) (tgt := 15) (by decide) d7_letter_10 (fun _ => ?_) (fun _ => ?_)
  · refine g_iload_n hK 2 rfl rfl d7_letter_15 ?_
    refine g_iconst hK d7_letter_16 zki0 ?_
    refine g_aload_n hK 0 rfl rfl d7_letter_17 ?_
    refine g_getM hK zfin_7 (fa_7_8 kc_292) q_1205 (w := 6) (by decide) d7_letter_18 (fun hm1 => ?_)
    refine g_getRN hK zfin_6 (fa_6_3 hm1) qn_1143 (pt_6_lettersOf hm1) d7_letter_21 ?_
    refine g_iload_n hK 1 rfl rfl d7_letter_24 ?_
    refine g_iald hK (pt_6_lettersOf_k hm1) d7_letter_25 (fun _ hl1 => ?_)
    refine g_iconst hK d7_letter_26 zki1 ?_
    refine g_isub hK d7_letter_27 (fun v1 hv1 => ?_)
    refine g_callSco hK (mk := mkZ) (rm := rm7_within) (cb := 0) (sb := 0) (As := [.int (zi a2), .int (zi 0), .int (zi v1)]) (n := 3) (c7_within K.2.1 hK.2.2.2.2.2.2.2.2.1 Z a2 0 v1 m2 ha2 zc0 hv1) q_1344 q_1345 q_7 q_1346 rfl (by decide +kernel) (by decide) (Nat.le_of_ble_eq_true rfl) (Nat.le_of_ble_eq_true rfl) (Nat.le_of_ble_eq_true rfl) rfl d7_letter_28 (fun r2 hr2 hpr2 => ?_)
    refine g_if_eq hK (zb_r r2) (tgt := 51) (by decide) d7_letter_31 (fun _ => ?_) (fun _ => ?_)
    · refine g_iconst hK d7_letter_51 zkim1 ?_
      exact g_iret hK zcm1 rfl rfl d7_letter_52
    · refine g_aload_n hK 0 rfl rfl d7_letter_34 ?_
      refine g_getM hK zfin_7 (fa_7_8 kc_292) q_1205 (w := 6) (by decide) d7_letter_35 (fun hm2 => ?_)
      refine g_getRN hK zfin_6 (fa_6_2 hm2) qn_1141 (pt_6_names hm2) d7_letter_38 ?_
      refine g_bipush hK d7_letter_41 zkb8 ?_
      refine g_iload_n hK 1 rfl rfl d7_letter_43 ?_
      refine g_imul hK d7_letter_44 (fun v2 hv2 => ?_)
      refine g_iload_n hK 2 rfl rfl d7_letter_45 ?_
      refine g_iadd hK d7_letter_46 (fun v3 hv3 => ?_)
      refine g_iald hK (pt_6_names_k hm2) d7_letter_47 (fun _ hl2 => ?_)
      refine g_goto hK (tgt := 52) (by decide) d7_letter_48 ?_
      exact g_iret hK hl2 rfl rfl d7_letter_52
  · refine g_iconst hK d7_letter_13 zki0 ?_
    exact g_iret hK zc0 rfl rfl d7_letter_14
set_option maxRecDepth 20000 in
theorem p7_depends_26 {K : zK} {Z : zZ} (hcx : zOk K Z b7_depends RX7 3 (some .int) 2 51 0 0 ∧ ∀ x ∈ K.2.2.2.2.2.2.2.2.2.exceptionTable.toList, False) (a1 : Int) (a2 : Int) (ha1 : zr a1) (ha2 : zr a2) (s0 : Int) (μ : zM) (hs0 : zr s0) : zG K Z (zΩ Z) (zF K Z (zΩ Z) (ze2 mkI)) 0 0 26 [(0, .ref (Z.2.2.1 + 292)), (1, .int (zi a1)), (2, .int (zi a2))] [.int (zi s0), .ref (Z.2.2.1 + 292)] μ (f7_depends_26 a1 a2 s0 μ) := by
  obtain ⟨hK, hex⟩ := id hcx
  unfold f7_depends_26
  refine g_iconst hK d7_depends_26 zki1 ?_
  refine g_callVcl hK (mk := mkZ) (rm := rm7_throwsIf) (cb := 0) (sb := 0) (As := [.int (zi s0), .int (zi 1)]) (b := 292) (n := 2) (c7_throwsIf K.2.1 hK.2.2.2.2.2.2.2.2.1 Z s0 1 μ hs0 zc1) rfl (ci := 7) rfl (by decide) kc_292 q_1317 q_1319 qs_7_throwsIf q_7 q_1320 rfl (by decide +kernel) (by decide) (Nat.le_of_ble_eq_true rfl) (Nat.le_of_ble_eq_true rfl) (Nat.le_of_ble_eq_true rfl) rfl d7_depends_27 (fun r3 m3 hr3 hpr3 => ?_)
  refine g_if_eq hK (zb_r r3) (tgt := 37) (by decide) d7_depends_30 (fun _ => ?_) (fun _ => ?_)
  · refine g_aload_n hK 0 rfl rfl d7_depends_37 ?_
    refine g_getM hK zfin_7 (fa_7_8 kc_292) q_1205 (w := 6) (by decide) d7_depends_38 (fun hm1 => ?_)
    refine g_getRN hK zfin_6 (fa_6_14 hm1) qn_1165 (pt_6_depends hm1) d7_depends_41 ?_
    refine g_bipush hK d7_depends_44 zkb10 ?_
    refine g_iload_n hK 1 rfl rfl d7_depends_46 ?_
    refine g_imul hK d7_depends_47 (fun v1 hv1 => ?_)
    refine g_iload_n hK 2 rfl rfl d7_depends_48 ?_
    refine g_iadd hK d7_depends_49 (fun v2 hv2 => ?_)
    refine g_iald hK (pt_6_depends_k hm1) d7_depends_50 (fun _ hl1 => ?_)
    exact g_iret hK hl1 rfl rfl d7_depends_51
  · refine g_iconst hK d7_depends_33 zki0 ?_
    refine g_goto hK (tgt := 51) (by decide) d7_depends_34 ?_
    exact g_iret hK zc0 rfl rfl d7_depends_51
set_option maxRecDepth 20000 in
theorem c7_depends (l : Launch) (hst : l.stackTraces = false) (Z : zZ) (a1 : Int) (a2 : Int) (μ : zM) (ha1 : zr a1) (ha2 : zr a2) : ∀ x, f7_depends a1 a2 μ = some x → zCt l Z (zΩ Z) y7_depends (zws (.code y7_depends b7_depends 3 (some .int))) rm7_depends [.ref (Z.2.2.1 + 292), .int (zi a1), .int (zi a2)] μ (ze2 mkI x) := by
  intro x h
  refine zCt.of (enc := (ze2 mkI)) h (by decide) hst (Nat.le_of_ble_eq_true rfl) (fun K hK0 hex hl _ => ?_)
  subst hl
  have hcx : zOk K Z b7_depends RX7 3 (some .int) 2 51 0 0 ∧ ∀ x ∈ K.2.2.2.2.2.2.2.2.2.exceptionTable.toList, False := ⟨hK0, hex⟩
  have hK := hcx.1
  show zG K Z (zΩ Z) (zF K Z (zΩ Z) (ze2 mkI)) 0 0 0 [(0, .ref (Z.2.2.1 + 292)), (1, .int (zi a1)), (2, .int (zi a2))] [] μ (f7_depends a1 a2 μ)
  unfold f7_depends
  refine g_aload_n hK 0 rfl rfl d7_depends_0 ?_
  refine g_iconst hK d7_depends_1 zki0 ?_
  refine g_putI hK zfin_7 (fa_7_0 kc_292) q_1197 zc0 rfl (tyX7_ok 0 (by decide)) tyX7 tyX7_ok nmX7 d7_depends_2 ?_
  refine g_ltM (fun m1 => ?_)
  refine g_aload_n hK 0 rfl rfl d7_depends_5 ?_
  refine g_iload_n hK 1 rfl rfl d7_depends_6 ?_
  refine g_callVcl hK (mk := mkZ) (rm := rm7_noSnippet) (cb := 0) (sb := 0) (As := [.int (zi a1)]) (b := 292) (n := 1) (c7_noSnippet K.2.1 hK.2.2.2.2.2.2.2.2.1 Z a1 m1 ha1) rfl (ci := 7) rfl (by decide) kc_292 q_1431 q_1433 qs_7_noSnippet q_7 q_1434 rfl (by decide +kernel) (by decide) (Nat.le_of_ble_eq_true rfl) (Nat.le_of_ble_eq_true rfl) (Nat.le_of_ble_eq_true rfl) rfl d7_depends_7 (fun r1 m2 hr1 hpr1 => ?_)
  refine g_if_ne hK (zb_r r1) (tgt := 33) (by decide) d7_depends_10 (fun _ => ?_) (fun _ => ?_)
  · refine g_iconst hK d7_depends_33 zki0 ?_
    refine g_goto hK (tgt := 51) (by decide) d7_depends_34 ?_
    exact g_iret hK zc0 rfl rfl d7_depends_51
  · refine g_aload_n hK 0 rfl rfl d7_depends_13 ?_
    refine g_iload_n hK 2 rfl rfl d7_depends_14 ?_
    refine g_callSco hK (mk := mkZ) (rm := rm7_isField) (cb := 0) (sb := 0) (As := [.int (zi a2)]) (n := 1) (c7_isField K.2.1 hK.2.2.2.2.2.2.2.2.1 Z a2 m2 ha2) q_1456 q_1457 q_7 q_1458 rfl (by decide +kernel) (by decide) (Nat.le_of_ble_eq_true rfl) (Nat.le_of_ble_eq_true rfl) (Nat.le_of_ble_eq_true rfl) rfl d7_depends_15 (fun r2 hr2 hpr2 => ?_)
    refine g_if_ne hK (zb_r r2) (tgt := 25) (by decide) d7_depends_18 (fun _ => ?_) (fun _ => ?_)
    · refine g_iconst hK d7_depends_25 zki0 ?_
      exact p7_depends_26 hcx a1 a2 ha1 ha2  0 m2 zc0
    · refine g_iconst hK d7_depends_21 zki1 ?_
      refine g_goto hK (tgt := 26) (by decide) d7_depends_22 ?_
      exact p7_depends_26 hcx a1 a2 ha1 ha2  1 m2 zc1
set_option maxRecDepth 20000 in
theorem p7_document_27 {K : zK} {Z : zZ} (hcx : zOk K Z b7_document RX7 2 (some .int) 1 30 0 0 ∧ ∀ x ∈ K.2.2.2.2.2.2.2.2.2.exceptionTable.toList, False) (a1 : Int) (ha1 : zr a1) (s0 : Int) (μ : zM) (hs0 : zr s0) : zG K Z (zΩ Z) (zF K Z (zΩ Z) (ze2 mkI)) 0 0 27 [(0, .ref (Z.2.2.1 + 292)), (1, .int (zi a1))] [.int (zi s0), .ref (Z.2.2.1 + 292)] μ (f7_document_27 a1 s0 μ) := by
  obtain ⟨hK, hex⟩ := id hcx
  unfold f7_document_27
  refine g_iconst hK d7_document_27 zki1 ?_
  refine g_callVcl hK (mk := mkZ) (rm := rm7_throwsIf) (cb := 0) (sb := 0) (As := [.int (zi s0), .int (zi 1)]) (b := 292) (n := 2) (c7_throwsIf K.2.1 hK.2.2.2.2.2.2.2.2.1 Z s0 1 μ hs0 zc1) rfl (ci := 7) rfl (by decide) kc_292 q_1317 q_1319 qs_7_throwsIf q_7 q_1320 rfl (by decide +kernel) (by decide) (Nat.le_of_ble_eq_true rfl) (Nat.le_of_ble_eq_true rfl) (Nat.le_of_ble_eq_true rfl) rfl d7_document_28 (fun r2 m2 hr2 hpr2 => ?_)
  refine g_if_eq hK (zb_r r2) (tgt := 38) (by decide) d7_document_31 (fun _ => ?_) (fun _ => ?_)
  · refine g_aload_n hK 0 rfl rfl d7_document_38 ?_
    refine g_getR hK zfin_7 (fa_7_1 kc_292) q_1198 (r := 293) (by decide +kernel) d7_document_39 ?_
    refine g_iconst hK d7_document_42 zki4 ?_
    refine g_iload_n hK 1 rfl rfl d7_document_43 ?_
    refine g_iadd hK d7_document_44 (fun v2 hv2 => ?_)
    refine g_iald hK kc_293 d7_document_45 (fun _ hl2 => ?_)
    exact g_iret hK hl2 rfl rfl d7_document_46
  · refine g_iconst hK d7_document_34 zki0 ?_
    refine g_goto hK (tgt := 46) (by decide) d7_document_35 ?_
    exact g_iret hK zc0 rfl rfl d7_document_46
set_option maxRecDepth 20000 in
theorem c7_document (l : Launch) (hst : l.stackTraces = false) (Z : zZ) (a1 : Int) (μ : zM) (ha1 : zr a1) : ∀ x, f7_document a1 μ = some x → zCt l Z (zΩ Z) y7_document (zws (.code y7_document b7_document 2 (some .int))) rm7_document [.ref (Z.2.2.1 + 292), .int (zi a1)] μ (ze2 mkI x) := by
  intro x h
  refine zCt.of (enc := (ze2 mkI)) h (by decide) hst (Nat.le_of_ble_eq_true rfl) (fun K hK0 hex hl _ => ?_)
  subst hl
  have hcx : zOk K Z b7_document RX7 2 (some .int) 1 30 0 0 ∧ ∀ x ∈ K.2.2.2.2.2.2.2.2.2.exceptionTable.toList, False := ⟨hK0, hex⟩
  have hK := hcx.1
  show zG K Z (zΩ Z) (zF K Z (zΩ Z) (ze2 mkI)) 0 0 0 [(0, .ref (Z.2.2.1 + 292)), (1, .int (zi a1))] [] μ (f7_document a1 μ)
  unfold f7_document
  refine g_aload_n hK 0 rfl rfl d7_document_0 ?_
  refine g_iconst hK d7_document_1 zki0 ?_
  refine g_putI hK zfin_7 (fa_7_0 kc_292) q_1197 zc0 rfl (tyX7_ok 0 (by decide)) tyX7 tyX7_ok nmX7 d7_document_2 ?_
  refine g_ltM (fun m1 => ?_)
  refine g_aload_n hK 0 rfl rfl d7_document_5 ?_
  refine g_iload_n hK 1 rfl rfl d7_document_6 ?_
  refine g_iconst hK d7_document_7 zki0 ?_
  refine g_aload_n hK 0 rfl rfl d7_document_8 ?_
  refine g_getR hK zfin_7 (fa_7_1 kc_292) q_1198 (r := 293) (by decide +kernel) d7_document_9 ?_
  refine g_iconst hK d7_document_12 zki2 ?_
  refine g_iald hK kc_293 d7_document_13 (fun _ hl1 => ?_)
  refine g_iconst hK d7_document_14 zki1 ?_
  refine g_isub hK d7_document_15 (fun v1 hv1 => ?_)
  refine g_callSco hK (mk := mkZ) (rm := rm7_within) (cb := 0) (sb := 0) (As := [.int (zi a1), .int (zi 0), .int (zi v1)]) (n := 3) (c7_within K.2.1 hK.2.2.2.2.2.2.2.2.1 Z a1 0 v1 m1 ha1 zc0 hv1) q_1344 q_1345 q_7 q_1346 rfl (by decide +kernel) (by decide) (Nat.le_of_ble_eq_true rfl) (Nat.le_of_ble_eq_true rfl) (Nat.le_of_ble_eq_true rfl) rfl d7_document_16 (fun r1 hr1 hpr1 => ?_)
  refine g_if_ne hK (zb_r r1) (tgt := 26) (by decide) d7_document_19 (fun _ => ?_) (fun _ => ?_)
  · refine g_iconst hK d7_document_26 zki0 ?_
    exact p7_document_27 hcx a1 ha1  0 m1 zc0
  · refine g_iconst hK d7_document_22 zki1 ?_
    refine g_goto hK (tgt := 27) (by decide) d7_document_23 ?_
    exact p7_document_27 hcx a1 ha1  1 m1 zc1
set_option maxRecDepth 20000 in
theorem p7_session_49 {K : zK} {Z : zZ} (hcx : zOk K Z b7_session RX7 3 (some .int) 44 1136 0 0 ∧ ∀ x ∈ K.2.2.2.2.2.2.2.2.2.exceptionTable.toList, False) (a1 : Int) (a2 : Int) (ha1 : zr a1) (ha2 : zr a2) (s0 : Int) (μ : zM) (hs0 : zr s0) : zG K Z (zΩ Z) (zF K Z (zΩ Z) (ze2 mkI)) 0 0 49 [(0, .ref (Z.2.2.1 + 292)), (1, .int (zi a1)), (2, .int (zi a2))] [.int (zi s0), .ref (Z.2.2.1 + 292)] μ (f7_session_49 a1 a2 s0 μ) := by
  obtain ⟨hK, hex⟩ := id hcx
  unfold f7_session_49
  refine g_iconst hK d7_session_49 zki2 ?_
  refine g_callVcl hK (mk := mkZ) (rm := rm7_throwsIf) (cb := 0) (sb := 0) (As := [.int (zi s0), .int (zi 2)]) (b := 292) (n := 2) (c7_throwsIf K.2.1 hK.2.2.2.2.2.2.2.2.1 Z s0 2 μ hs0 zc2) rfl (ci := 7) rfl (by decide) kc_292 q_1317 q_1319 qs_7_throwsIf q_7 q_1320 rfl (by decide +kernel) (by decide) (Nat.le_of_ble_eq_true rfl) (Nat.le_of_ble_eq_true rfl) (Nat.le_of_ble_eq_true rfl) rfl d7_session_50 (fun r4 m3 hr4 hpr4 => ?_)
  refine g_if_eq hK (zb_r r4) (tgt := 58) (by decide) d7_session_53 (fun _ => ?_) (fun _ => ?_)
  · refine g_aload_n hK 0 rfl rfl d7_session_58 ?_
    refine g_iload_n hK 1 rfl rfl d7_session_59 ?_
    refine g_callVcm hK (rm := rm7_lays) (cb := 0) (sb := 0) (As := [.int (zi a1)]) (b := 292) (n := 1) (c7_lays K.2.1 hK.2.2.2.2.2.2.2.2.1 Z a1 m3 ha1) rfl (ci := 7) rfl (by decide) kc_292 q_1467 q_1469 qs_7_lays q_7 q_1470 rfl (by decide +kernel) (by decide) (Nat.le_of_ble_eq_true rfl) (Nat.le_of_ble_eq_true rfl) (Nat.le_of_ble_eq_true rfl) rfl d7_session_60 (fun m4 hm4 => ?_)
    refine g_iload_n hK 2 rfl rfl d7_session_63 ?_
    refine g_iconst hK d7_session_64 zki3 ?_
    refine g_icmp_ge hK ha2 zc3 (tgt := 82) (by decide) d7_session_65 (fun _ => ?_) (fun _ => ?_)
    · refine g_iload_n hK 2 rfl rfl d7_session_82 ?_
      refine g_iconst hK d7_session_83 zki3 ?_
      refine g_icmp_ne hK ha2 zc3 (tgt := 94) (by decide) d7_session_84 (fun _ => ?_) (fun _ => ?_)
      · refine g_aload_n hK 0 rfl rfl d7_session_94 ?_
        refine g_getI hK zfin_7 (fa_7_27 kc_292) q_1224 d7_session_95 (fun hf1 => ?_)
        exact g_iret hK hf1 rfl rfl d7_session_98
      · refine g_aload_n hK 0 rfl rfl d7_session_87 ?_
        refine g_callVcl hK (mk := mkI) (rm := rm7_textLength) (cb := 0) (sb := 0) (As := []) (b := 292) (n := 0) (c7_textLength K.2.1 hK.2.2.2.2.2.2.2.2.1 Z  m4 ) rfl (ci := 7) rfl (by decide) kc_292 q_1487 q_1489 qs_7_textLength q_7 q_1490 rfl (by decide +kernel) (by decide) (Nat.le_of_ble_eq_true rfl) (Nat.le_of_ble_eq_true rfl) (Nat.le_of_ble_eq_true rfl) rfl d7_session_88 (fun r5 m5 hr5 hpr5 => ?_)
        refine g_goto hK (tgt := 98) (by decide) d7_session_91 ?_
        exact g_iret hK hpr5 rfl rfl d7_session_98
    · refine g_aload_n hK 0 rfl rfl d7_session_68 ?_
      refine g_getR hK zfin_7 (fa_7_1 kc_292) q_1198 (r := 293) (by decide +kernel) d7_session_69 ?_
      refine g_aload_n hK 0 rfl rfl d7_session_72 ?_
      refine g_getI hK zfin_7 (fa_7_22 kc_292) q_1219 d7_session_73 (fun hf2 => ?_)
      refine g_iload_n hK 2 rfl rfl d7_session_76 ?_
      refine g_iadd hK d7_session_77 (fun v2 hv2 => ?_)
      refine g_iald hK kc_293 d7_session_78 (fun _ hl2 => ?_)
      refine g_goto hK (tgt := 98) (by decide) d7_session_79 ?_
      exact g_iret hK hl2 rfl rfl d7_session_98
  · refine g_iconst hK d7_session_56 zki0 ?_
    exact g_iret hK zc0 rfl rfl d7_session_57
set_option maxRecDepth 20000 in
theorem p7_session_27 {K : zK} {Z : zZ} (hcx : zOk K Z b7_session RX7 3 (some .int) 44 1136 0 0 ∧ ∀ x ∈ K.2.2.2.2.2.2.2.2.2.exceptionTable.toList, False) (a1 : Int) (a2 : Int) (ha1 : zr a1) (ha2 : zr a2) (s0 : Int) (μ : zM) (hs0 : zr s0) : zG K Z (zΩ Z) (zF K Z (zΩ Z) (ze2 mkI)) 0 0 27 [(0, .ref (Z.2.2.1 + 292)), (1, .int (zi a1)), (2, .int (zi a2))] [.int (zi s0), .ref (Z.2.2.1 + 292)] μ (f7_session_27 a1 a2 s0 μ) := by
  obtain ⟨hK, hex⟩ := id hcx
  unfold f7_session_27
  refine g_iconst hK d7_session_27 zki1 ?_
  refine g_callVcl hK (mk := mkZ) (rm := rm7_throwsIf) (cb := 0) (sb := 0) (As := [.int (zi s0), .int (zi 1)]) (b := 292) (n := 2) (c7_throwsIf K.2.1 hK.2.2.2.2.2.2.2.2.1 Z s0 1 μ hs0 zc1) rfl (ci := 7) rfl (by decide) kc_292 q_1317 q_1319 qs_7_throwsIf q_7 q_1320 rfl (by decide +kernel) (by decide) (Nat.le_of_ble_eq_true rfl) (Nat.le_of_ble_eq_true rfl) (Nat.le_of_ble_eq_true rfl) rfl d7_session_28 (fun r2 m2 hr2 hpr2 => ?_)
  refine g_if_ne hK (zb_r r2) (tgt := 56) (by decide) d7_session_31 (fun _ => ?_) (fun _ => ?_)
  · refine g_iconst hK d7_session_56 zki0 ?_
    exact g_iret hK zc0 rfl rfl d7_session_57
  · refine g_aload_n hK 0 rfl rfl d7_session_34 ?_
    refine g_iload_n hK 2 rfl rfl d7_session_35 ?_
    refine g_iconst hK d7_session_36 zki0 ?_
    refine g_iconst hK d7_session_37 zki4 ?_
    refine g_callSco hK (mk := mkZ) (rm := rm7_within) (cb := 0) (sb := 0) (As := [.int (zi a2), .int (zi 0), .int (zi 4)]) (n := 3) (c7_within K.2.1 hK.2.2.2.2.2.2.2.2.1 Z a2 0 4 m2 ha2 zc0 zc4) q_1344 q_1345 q_7 q_1346 rfl (by decide +kernel) (by decide) (Nat.le_of_ble_eq_true rfl) (Nat.le_of_ble_eq_true rfl) (Nat.le_of_ble_eq_true rfl) rfl d7_session_38 (fun r3 hr3 hpr3 => ?_)
    refine g_if_ne hK (zb_r r3) (tgt := 48) (by decide) d7_session_41 (fun _ => ?_) (fun _ => ?_)
    · refine g_iconst hK d7_session_48 zki0 ?_
      exact p7_session_49 hcx a1 a2 ha1 ha2  0 m2 zc0
    · refine g_iconst hK d7_session_44 zki1 ?_
      refine g_goto hK (tgt := 49) (by decide) d7_session_45 ?_
      exact p7_session_49 hcx a1 a2 ha1 ha2  1 m2 zc1
set_option maxRecDepth 20000 in
theorem c7_session (l : Launch) (hst : l.stackTraces = false) (Z : zZ) (a1 : Int) (a2 : Int) (μ : zM) (ha1 : zr a1) (ha2 : zr a2) : ∀ x, f7_session a1 a2 μ = some x → zCt l Z (zΩ Z) y7_session (zws (.code y7_session b7_session 3 (some .int))) rm7_session [.ref (Z.2.2.1 + 292), .int (zi a1), .int (zi a2)] μ (ze2 mkI x) := by
  intro x h
  refine zCt.of (enc := (ze2 mkI)) h (by decide) hst (Nat.le_of_ble_eq_true rfl) (fun K hK0 hex hl _ => ?_)
  subst hl
  have hcx : zOk K Z b7_session RX7 3 (some .int) 44 1136 0 0 ∧ ∀ x ∈ K.2.2.2.2.2.2.2.2.2.exceptionTable.toList, False := ⟨hK0, hex⟩
  have hK := hcx.1
  show zG K Z (zΩ Z) (zF K Z (zΩ Z) (ze2 mkI)) 0 0 0 [(0, .ref (Z.2.2.1 + 292)), (1, .int (zi a1)), (2, .int (zi a2))] [] μ (f7_session a1 a2 μ)
  unfold f7_session
  refine g_aload_n hK 0 rfl rfl d7_session_0 ?_
  refine g_iconst hK d7_session_1 zki0 ?_
  refine g_putI hK zfin_7 (fa_7_0 kc_292) q_1197 zc0 rfl (tyX7_ok 0 (by decide)) tyX7 tyX7_ok nmX7 d7_session_2 ?_
  refine g_ltM (fun m1 => ?_)
  refine g_aload_n hK 0 rfl rfl d7_session_5 ?_
  refine g_iload_n hK 1 rfl rfl d7_session_6 ?_
  refine g_iconst hK d7_session_7 zki0 ?_
  refine g_aload_n hK 0 rfl rfl d7_session_8 ?_
  refine g_getR hK zfin_7 (fa_7_1 kc_292) q_1198 (r := 293) (by decide +kernel) d7_session_9 ?_
  refine g_iconst hK d7_session_12 zki0 ?_
  refine g_iald hK kc_293 d7_session_13 (fun _ hl1 => ?_)
  refine g_iconst hK d7_session_14 zki1 ?_
  refine g_isub hK d7_session_15 (fun v1 hv1 => ?_)
  refine g_callSco hK (mk := mkZ) (rm := rm7_within) (cb := 0) (sb := 0) (As := [.int (zi a1), .int (zi 0), .int (zi v1)]) (n := 3) (c7_within K.2.1 hK.2.2.2.2.2.2.2.2.1 Z a1 0 v1 m1 ha1 zc0 hv1) q_1344 q_1345 q_7 q_1346 rfl (by decide +kernel) (by decide) (Nat.le_of_ble_eq_true rfl) (Nat.le_of_ble_eq_true rfl) (Nat.le_of_ble_eq_true rfl) rfl d7_session_16 (fun r1 hr1 hpr1 => ?_)
  refine g_if_ne hK (zb_r r1) (tgt := 26) (by decide) d7_session_19 (fun _ => ?_) (fun _ => ?_)
  · refine g_iconst hK d7_session_26 zki0 ?_
    exact p7_session_27 hcx a1 a2 ha1 ha2  0 m1 zc0
  · refine g_iconst hK d7_session_22 zki1 ?_
    refine g_goto hK (tgt := 27) (by decide) d7_session_23 ?_
    exact p7_session_27 hcx a1 a2 ha1 ha2  1 m1 zc1
set_option maxRecDepth 20000 in
theorem p7_account_21 {K : zK} {Z : zZ} (hcx : zOk K Z b7_account RX7 2 (some .int) 1 30 0 0 ∧ ∀ x ∈ K.2.2.2.2.2.2.2.2.2.exceptionTable.toList, False) (a1 : Int) (ha1 : zr a1) (s0 : Int) (μ : zM) (hs0 : zr s0) : zG K Z (zΩ Z) (zF K Z (zΩ Z) (ze2 mkI)) 0 0 21 [(0, .ref (Z.2.2.1 + 292)), (1, .int (zi a1))] [.int (zi s0), .ref (Z.2.2.1 + 292)] μ (f7_account_21 a1 s0 μ) := by
  obtain ⟨hK, hex⟩ := id hcx
  unfold f7_account_21
  refine g_iconst hK d7_account_21 zki1 ?_
  refine g_callVcl hK (mk := mkZ) (rm := rm7_throwsIf) (cb := 0) (sb := 0) (As := [.int (zi s0), .int (zi 1)]) (b := 292) (n := 2) (c7_throwsIf K.2.1 hK.2.2.2.2.2.2.2.2.1 Z s0 1 μ hs0 zc1) rfl (ci := 7) rfl (by decide) kc_292 q_1317 q_1319 qs_7_throwsIf q_7 q_1320 rfl (by decide +kernel) (by decide) (Nat.le_of_ble_eq_true rfl) (Nat.le_of_ble_eq_true rfl) (Nat.le_of_ble_eq_true rfl) rfl d7_account_22 (fun r2 m2 hr2 hpr2 => ?_)
  refine g_if_eq hK (zb_r r2) (tgt := 32) (by decide) d7_account_25 (fun _ => ?_) (fun _ => ?_)
  · refine g_aload_n hK 0 rfl rfl d7_account_32 ?_
    refine g_getR hK zfin_7 (fa_7_6 kc_292) q_1203 (r := 298) (by decide +kernel) d7_account_33 ?_
    refine g_iload_n hK 1 rfl rfl d7_account_36 ?_
    refine g_iald hK kc_298 d7_account_37 (fun _ hl1 => ?_)
    exact g_iret hK hl1 rfl rfl d7_account_38
  · refine g_iconst hK d7_account_28 zki0 ?_
    refine g_goto hK (tgt := 38) (by decide) d7_account_29 ?_
    exact g_iret hK zc0 rfl rfl d7_account_38
set_option maxRecDepth 20000 in
theorem c7_account (l : Launch) (hst : l.stackTraces = false) (Z : zZ) (a1 : Int) (μ : zM) (ha1 : zr a1) : ∀ x, f7_account a1 μ = some x → zCt l Z (zΩ Z) y7_account (zws (.code y7_account b7_account 2 (some .int))) rm7_account [.ref (Z.2.2.1 + 292), .int (zi a1)] μ (ze2 mkI x) := by
  intro x h
  refine zCt.of (enc := (ze2 mkI)) h (by decide) hst (Nat.le_of_ble_eq_true rfl) (fun K hK0 hex hl _ => ?_)
  subst hl
  have hcx : zOk K Z b7_account RX7 2 (some .int) 1 30 0 0 ∧ ∀ x ∈ K.2.2.2.2.2.2.2.2.2.exceptionTable.toList, False := ⟨hK0, hex⟩
  have hK := hcx.1
  show zG K Z (zΩ Z) (zF K Z (zΩ Z) (ze2 mkI)) 0 0 0 [(0, .ref (Z.2.2.1 + 292)), (1, .int (zi a1))] [] μ (f7_account a1 μ)
  unfold f7_account
  refine g_aload_n hK 0 rfl rfl d7_account_0 ?_
  refine g_iconst hK d7_account_1 zki0 ?_
  refine g_putI hK zfin_7 (fa_7_0 kc_292) q_1197 zc0 rfl (tyX7_ok 0 (by decide)) tyX7 tyX7_ok nmX7 d7_account_2 ?_
  refine g_ltM (fun m1 => ?_)
  refine g_aload_n hK 0 rfl rfl d7_account_5 ?_
  refine g_iload_n hK 1 rfl rfl d7_account_6 ?_
  refine g_iconst hK d7_account_7 zki0 ?_
  refine g_bipush hK d7_account_8 zkb9 ?_
  refine g_callSco hK (mk := mkZ) (rm := rm7_within) (cb := 0) (sb := 0) (As := [.int (zi a1), .int (zi 0), .int (zi 9)]) (n := 3) (c7_within K.2.1 hK.2.2.2.2.2.2.2.2.1 Z a1 0 9 m1 ha1 zc0 zc9) q_1344 q_1345 q_7 q_1346 rfl (by decide +kernel) (by decide) (Nat.le_of_ble_eq_true rfl) (Nat.le_of_ble_eq_true rfl) (Nat.le_of_ble_eq_true rfl) rfl d7_account_10 (fun r1 hr1 hpr1 => ?_)
  refine g_if_ne hK (zb_r r1) (tgt := 20) (by decide) d7_account_13 (fun _ => ?_) (fun _ => ?_)
  · refine g_iconst hK d7_account_20 zki0 ?_
    exact p7_account_21 hcx a1 ha1  0 m1 zc0
  · refine g_iconst hK d7_account_16 zki1 ?_
    refine g_goto hK (tgt := 21) (by decide) d7_account_17 ?_
    exact p7_account_21 hcx a1 ha1  1 m1 zc1
set_option maxRecDepth 20000 in
theorem p7_noSession_15 {K : zK} {Z : zZ} (hcx : zOk K Z b7_noSession RX7 2 (some .boolean) 4 94 0 0 ∧ ∀ x ∈ K.2.2.2.2.2.2.2.2.2.exceptionTable.toList, False) (a1 : Int) (ha1 : zr a1) (s0 : Int) (μ : zM) (hs0 : zr s0) : zG K Z (zΩ Z) (zF K Z (zΩ Z) (ze2 mkZ)) 0 0 15 [(0, .ref (Z.2.2.1 + 292)), (1, .int (zi a1))] [.int (zi s0), .ref (Z.2.2.1 + 292)] μ (f7_noSession_15 a1 s0 μ) := by
  obtain ⟨hK, hex⟩ := id hcx
  unfold f7_noSession_15
  refine g_iload_n hK 1 rfl rfl d7_noSession_15 ?_
  refine g_callVcl hK (mk := mkZ) (rm := rm7_throwsIf) (cb := 0) (sb := 0) (As := [.int (zi s0), .int (zi a1)]) (b := 292) (n := 2) (c7_throwsIf K.2.1 hK.2.2.2.2.2.2.2.2.1 Z s0 a1 μ hs0 ha1) rfl (ci := 7) rfl (by decide) kc_292 q_1317 q_1319 qs_7_throwsIf q_7 q_1320 rfl (by decide +kernel) (by decide) (Nat.le_of_ble_eq_true rfl) (Nat.le_of_ble_eq_true rfl) (Nat.le_of_ble_eq_true rfl) rfl d7_noSession_16 (fun r1 m1 hr1 hpr1 => ?_)
  refine g_if_eq hK (zb_r r1) (tgt := 24) (by decide) d7_noSession_19 (fun _ => ?_) (fun _ => ?_)
  · refine g_aload_n hK 0 rfl rfl d7_noSession_24 ?_
    refine g_aload_n hK 0 rfl rfl d7_noSession_25 ?_
    refine g_getR hK zfin_7 (fa_7_1 kc_292) q_1198 (r := 293) (by decide +kernel) d7_noSession_26 ?_
    refine g_iconst hK d7_noSession_29 zki0 ?_
    refine g_iald hK kc_293 d7_noSession_30 (fun _ hl2 => ?_)
    refine g_iconst hK d7_noSession_31 zki1 ?_
    refine g_isub hK d7_noSession_32 (fun v1 hv1 => ?_)
    refine g_callVcm hK (rm := rm7_lays) (cb := 0) (sb := 0) (As := [.int (zi v1)]) (b := 292) (n := 1) (c7_lays K.2.1 hK.2.2.2.2.2.2.2.2.1 Z v1 m1 hv1) rfl (ci := 7) rfl (by decide) kc_292 q_1467 q_1469 qs_7_lays q_7 q_1470 rfl (by decide +kernel) (by decide) (Nat.le_of_ble_eq_true rfl) (Nat.le_of_ble_eq_true rfl) (Nat.le_of_ble_eq_true rfl) rfl d7_noSession_33 (fun m2 hm2 => ?_)
    refine g_iconst hK d7_noSession_36 zki0 ?_
    exact g_zret hK (by decide) rfl rfl d7_noSession_37
  · refine g_iconst hK d7_noSession_22 zki1 ?_
    exact g_zret hK (by decide) rfl rfl d7_noSession_23
set_option maxRecDepth 20000 in
theorem c7_noSession (l : Launch) (hst : l.stackTraces = false) (Z : zZ) (a1 : Int) (μ : zM) (ha1 : zr a1) : ∀ x, f7_noSession a1 μ = some x → zCt l Z (zΩ Z) y7_noSession (zws (.code y7_noSession b7_noSession 2 (some .boolean))) rm7_noSession [.ref (Z.2.2.1 + 292), .int (zi a1)] μ (ze2 mkZ x) := by
  intro x h
  refine zCt.of (enc := (ze2 mkZ)) h (by decide) hst (Nat.le_of_ble_eq_true rfl) (fun K hK0 hex hl _ => ?_)
  subst hl
  have hcx : zOk K Z b7_noSession RX7 2 (some .boolean) 4 94 0 0 ∧ ∀ x ∈ K.2.2.2.2.2.2.2.2.2.exceptionTable.toList, False := ⟨hK0, hex⟩
  have hK := hcx.1
  show zG K Z (zΩ Z) (zF K Z (zΩ Z) (ze2 mkZ)) 0 0 0 [(0, .ref (Z.2.2.1 + 292)), (1, .int (zi a1))] [] μ (f7_noSession a1 μ)
  unfold f7_noSession
  refine g_aload_n hK 0 rfl rfl d7_noSession_0 ?_
  refine g_aload_n hK 0 rfl rfl d7_noSession_1 ?_
  refine g_getR hK zfin_7 (fa_7_1 kc_292) q_1198 (r := 293) (by decide +kernel) d7_noSession_2 ?_
  refine g_iconst hK d7_noSession_5 zki0 ?_
  refine g_iald hK kc_293 d7_noSession_6 (fun _ hl1 => ?_)
  refine g_if_ne hK hl1 (tgt := 14) (by decide) d7_noSession_7 (fun _ => ?_) (fun _ => ?_)
  · refine g_iconst hK d7_noSession_14 zki0 ?_
    exact p7_noSession_15 hcx a1 ha1  0 μ zc0
  · refine g_iconst hK d7_noSession_10 zki1 ?_
    refine g_goto hK (tgt := 15) (by decide) d7_noSession_11 ?_
    exact p7_noSession_15 hcx a1 ha1  1 μ zc1
set_option maxRecDepth 20000 in
theorem p7_shownOf_43 {K : zK} {Z : zZ} (hcx : zOk K Z b7_shownOf RX7 4 (some .int) 1 29 0 0 ∧ ∀ x ∈ K.2.2.2.2.2.2.2.2.2.exceptionTable.toList, False) (a1 : Int) (μ : zM) (ha1 : zr a1) (k4 : Int → Int → Option Int) (hk4 : ∀ (x2 : Int) (x3 : Int) (hx2 : zr x2) (hx3 : zr x3), zG K Z (zΩ Z) (zF K Z (zΩ Z) (zeP mkI μ)) 0 0 4 [(0, .ref (Z.2.2.1 + 292)), (1, .int (zi a1)), (2, .int (zi x2)), (3, .int (zi x3))] [] μ (k4 x2 x3)) (x3 : Int) (s0 : Int) (hx3 : zr x3) (hs0 : zr s0) : zG K Z (zΩ Z) (zF K Z (zΩ Z) (zeP mkI μ)) 0 0 43 [(0, .ref (Z.2.2.1 + 292)), (1, .int (zi a1)), (3, .int (zi x3))] [.int (zi s0)] μ (f7_shownOf_43 a1 μ k4 x3 s0) := by
  obtain ⟨hK, hex⟩ := id hcx
  unfold f7_shownOf_43
  refine g_iconst hK d7_shownOf_43 zki0 ?_
  refine g_iadd hK d7_shownOf_44 (fun v3 hv3 => ?_)
  refine g_istore_n hK (lv2 := [(0, .ref (Z.2.2.1 + 292)), (1, .int (zi a1)), (2, .int (zi v3)), (3, .int (zi x3))]) [1, 2, 0, 3] rfl rfl (by decide) d7_shownOf_45 ?_
  refine g_iinc hK (lv2 := fun v4 => [(0, .ref (Z.2.2.1 + 292)), (1, .int (zi a1)), (2, .int (zi v3)), (3, .int (zi v4))]) 3 rfl [1, 2, 3, 0] (fun _ => rfl) (by decide) d7_shownOf_46 (fun v4 hv4 => ?_)
  refine g_goto hK (tgt := 4) (by decide) d7_shownOf_49 ?_
  exact hk4 v3 v4  hv3 hv4
set_option maxRecDepth 20000 in
theorem p7_shownOf_4 {K : zK} {Z : zZ} (hcx : zOk K Z b7_shownOf RX7 4 (some .int) 1 29 0 0 ∧ ∀ x ∈ K.2.2.2.2.2.2.2.2.2.exceptionTable.toList, False) (a1 : Int) (μ : zM) (ha1 : zr a1) (k4 : Int → Int → Option Int) (hk4 : ∀ (x2 : Int) (x3 : Int) (hx2 : zr x2) (hx3 : zr x3), zG K Z (zΩ Z) (zF K Z (zΩ Z) (zeP mkI μ)) 0 0 4 [(0, .ref (Z.2.2.1 + 292)), (1, .int (zi a1)), (2, .int (zi x2)), (3, .int (zi x3))] [] μ (k4 x2 x3)) (x2 : Int) (x3 : Int) (hx2 : zr x2) (hx3 : zr x3) : zG K Z (zΩ Z) (zF K Z (zΩ Z) (zeP mkI μ)) 0 0 4 [(0, .ref (Z.2.2.1 + 292)), (1, .int (zi a1)), (2, .int (zi x2)), (3, .int (zi x3))] [] μ (f7_shownOf_4 a1 μ k4 x2 x3) := by
  obtain ⟨hK, hex⟩ := id hcx
  unfold f7_shownOf_4
  refine g_iload_n hK 3 rfl rfl d7_shownOf_4 ?_
  refine g_aload_n hK 0 rfl rfl d7_shownOf_5 ?_
  refine g_callVco hK (mk := mkI) (rm := rm7_many) (cb := 0) (sb := 0) (As := []) (b := 292) (n := 0) (c7_many K.2.1 hK.2.2.2.2.2.2.2.2.1 Z  μ ) rfl (ci := 7) rfl (by decide) kc_292 q_1475 q_1477 qs_7_many q_7 q_1478 rfl (by decide +kernel) (by decide) (Nat.le_of_ble_eq_true rfl) (Nat.le_of_ble_eq_true rfl) (Nat.le_of_ble_eq_true rfl) rfl d7_shownOf_6 (fun r1 hr1 hpr1 => ?_)
  refine g_icmp_ge hK hx3 hpr1 (tgt := 52) (by decide) d7_shownOf_9 (fun _ => ?_) (fun _ => ?_)
  · refine g_iload_n hK 2 rfl rfl d7_shownOf_52 ?_
    exact g_iret hK hx2 rfl rfl d7_shownOf_53
  · refine g_iload_n hK 2 rfl rfl d7_shownOf_12 ?_
    refine g_aload_n hK 0 rfl rfl d7_shownOf_13 ?_
    refine g_getR hK zfin_7 (fa_7_23 kc_292) q_1220 (r := 329) (by decide +kernel) d7_shownOf_14 ?_
    refine g_iload_n hK 3 rfl rfl d7_shownOf_17 ?_
    refine g_zald hK kc_329 d7_shownOf_18 (fun _ hl1 => ?_)
    refine g_if_eq hK hl1 (tgt := 43) (by decide) d7_shownOf_19 (fun _ => ?_) (fun _ => ?_)
    · refine g_lv (lv2 := [(0, .ref (Z.2.2.1 + 292)), (1, .int (zi a1)), (3, .int (zi x3))]) [0, 1, 3] rfl ?_
      exact p7_shownOf_43 hcx a1 μ ha1 k4 hk4 x3 x2  hx3 hx2
    · refine g_aload_n hK 0 rfl rfl d7_shownOf_22 ?_
      refine g_getM hK zfin_7 (fa_7_8 kc_292) q_1205 (w := 6) (by decide) d7_shownOf_23 (fun hm1 => ?_)
      refine g_getRN hK zfin_6 (fa_6_7 hm1) qn_1151 (pt_6_field hm1) d7_shownOf_26 ?_
      refine g_aload_n hK 0 rfl rfl d7_shownOf_29 ?_
      refine g_iload_n hK 3 rfl rfl d7_shownOf_30 ?_
      refine g_callVco hK (mk := mkI) (rm := rm7_of) (cb := 0) (sb := 0) (As := [.int (zi x3)]) (b := 292) (n := 1) (c7_of K.2.1 hK.2.2.2.2.2.2.2.2.1 Z x3 μ hx3) rfl (ci := 7) rfl (by decide) kc_292 q_1479 q_1481 qs_7_of q_7 q_1482 rfl (by decide +kernel) (by decide) (Nat.le_of_ble_eq_true rfl) (Nat.le_of_ble_eq_true rfl) (Nat.le_of_ble_eq_true rfl) rfl d7_shownOf_31 (fun r2 hr2 hpr2 => ?_)
      refine g_iald hK (pt_6_field_k hm1) d7_shownOf_34 (fun _ hl2 => ?_)
      refine g_iload_n hK 1 rfl rfl d7_shownOf_35 ?_
      refine g_icmp_ne hK hl2 ha1 (tgt := 43) (by decide) d7_shownOf_36 (fun _ => ?_) (fun _ => ?_)
      · refine g_lv (lv2 := [(0, .ref (Z.2.2.1 + 292)), (1, .int (zi a1)), (3, .int (zi x3))]) [0, 1, 3] rfl ?_
        exact p7_shownOf_43 hcx a1 μ ha1 k4 hk4 x3 x2  hx3 hx2
      · refine g_iconst hK d7_shownOf_39 zki1 ?_
        refine g_goto hK (tgt := 44) (by decide) d7_shownOf_40 ?_
        refine g_iadd hK d7_shownOf_44 (fun v1 hv1 => ?_)
        refine g_istore_n hK (lv2 := [(0, .ref (Z.2.2.1 + 292)), (1, .int (zi a1)), (2, .int (zi v1)), (3, .int (zi x3))]) [1, 2, 0, 3] rfl rfl (by decide) d7_shownOf_45 ?_
        refine g_iinc hK (lv2 := fun v2 => [(0, .ref (Z.2.2.1 + 292)), (1, .int (zi a1)), (2, .int (zi v1)), (3, .int (zi v2))]) 3 rfl [1, 2, 3, 0] (fun _ => rfl) (by decide) d7_shownOf_46 (fun v2 hv2 => ?_)
        refine g_goto hK (tgt := 4) (by decide) d7_shownOf_49 ?_
        exact hk4 v1 v2  hv1 hv2
set_option maxRecDepth 20000 in
theorem l7_shownOf_4 {K : zK} {Z : zZ} (hcx : zOk K Z b7_shownOf RX7 4 (some .int) 1 29 0 0 ∧ ∀ x ∈ K.2.2.2.2.2.2.2.2.2.exceptionTable.toList, False) (a1 : Int) (μ : zM) (ha1 : zr a1) : ∀ (i9 : Nat) (x2 : Int) (x3 : Int) (hx2 : zr x2) (hx3 : zr x3), zG K Z (zΩ Z) (zF K Z (zΩ Z) (zeP mkI μ)) 0 0 4 [(0, .ref (Z.2.2.1 + 292)), (1, .int (zi a1)), (2, .int (zi x2)), (3, .int (zi x3))] [] μ (zfx (f7_shownOf_4 a1 μ) (fun _ _ => none) i9 x2 x3) := by
  intro i9
  induction i9 with
  | zero => intro x2 x3 hx2 hx3; exact g_none
  | succ i9 ih => intro x2 x3 hx2 hx3; exact p7_shownOf_4 hcx a1 μ ha1  (zfx (f7_shownOf_4 a1 μ) (fun _ _ => none) i9) ih x2 x3 hx2 hx3
set_option maxRecDepth 20000 in
theorem c7_shownOf (l : Launch) (hst : l.stackTraces = false) (Z : zZ) (a1 : Int) (μ : zM) (ha1 : zr a1) : ∀ x, f7_shownOf a1 μ = some x → zCt l Z (zΩ Z) y7_shownOf (zws (.code y7_shownOf b7_shownOf 4 (some .int))) rm7_shownOf [.ref (Z.2.2.1 + 292), .int (zi a1)] μ (zeP mkI μ x) := by
  intro x h
  refine zCt.of (enc := (zeP mkI μ)) h (by decide) hst (Nat.le_of_ble_eq_true rfl) (fun K hK0 hex hl _ => ?_)
  subst hl
  have hcx : zOk K Z b7_shownOf RX7 4 (some .int) 1 29 0 0 ∧ ∀ x ∈ K.2.2.2.2.2.2.2.2.2.exceptionTable.toList, False := ⟨hK0, hex⟩
  have hK := hcx.1
  show zG K Z (zΩ Z) (zF K Z (zΩ Z) (zeP mkI μ)) 0 0 0 [(0, .ref (Z.2.2.1 + 292)), (1, .int (zi a1))] [] μ (f7_shownOf a1 μ)
  unfold f7_shownOf
  refine g_iconst hK d7_shownOf_0 zki0 ?_
  refine g_istore_n hK (lv2 := [(0, .ref (Z.2.2.1 + 292)), (1, .int (zi a1)), (2, .int (zi 0))]) [1, 2, 0] rfl rfl (by decide) d7_shownOf_1 ?_
  refine g_iconst hK d7_shownOf_2 zki0 ?_
  refine g_istore_n hK (lv2 := [(0, .ref (Z.2.2.1 + 292)), (1, .int (zi a1)), (2, .int (zi 0)), (3, .int (zi 0))]) [1, 2, 3, 0] rfl rfl (by decide) d7_shownOf_3 ?_
  exact l7_shownOf_4 hcx a1 μ ha1  zFu 0 0  zc0 zc0
set_option maxRecDepth 20000 in
theorem p7_allOf_4 {K : zK} {Z : zZ} (hcx : zOk K Z b7_allOf RX7 4 (some .int) 1 29 0 0 ∧ ∀ x ∈ K.2.2.2.2.2.2.2.2.2.exceptionTable.toList, False) (a1 : Int) (μ : zM) (ha1 : zr a1) (k4 : Int → Int → Option Int) (hk4 : ∀ (x2 : Int) (x3 : Int) (hx2 : zr x2) (hx3 : zr x3), zG K Z (zΩ Z) (zF K Z (zΩ Z) (zeP mkI μ)) 0 0 4 [(0, .ref (Z.2.2.1 + 292)), (1, .int (zi a1)), (2, .int (zi x2)), (3, .int (zi x3))] [] μ (k4 x2 x3)) (x2 : Int) (x3 : Int) (hx2 : zr x2) (hx3 : zr x3) : zG K Z (zΩ Z) (zF K Z (zΩ Z) (zeP mkI μ)) 0 0 4 [(0, .ref (Z.2.2.1 + 292)), (1, .int (zi a1)), (2, .int (zi x2)), (3, .int (zi x3))] [] μ (f7_allOf_4 a1 μ k4 x2 x3) := by
  obtain ⟨hK, hex⟩ := id hcx
  unfold f7_allOf_4
  refine g_iload_n hK 3 rfl rfl d7_allOf_4 ?_
  refine g_aload_n hK 0 rfl rfl d7_allOf_5 ?_
  refine g_callVco hK (mk := mkI) (rm := rm7_many) (cb := 0) (sb := 0) (As := []) (b := 292) (n := 0) (c7_many K.2.1 hK.2.2.2.2.2.2.2.2.1 Z  μ ) rfl (ci := 7) rfl (by decide) kc_292 q_1475 q_1477 qs_7_many q_7 q_1478 rfl (by decide +kernel) (by decide) (Nat.le_of_ble_eq_true rfl) (Nat.le_of_ble_eq_true rfl) (Nat.le_of_ble_eq_true rfl) rfl d7_allOf_6 (fun r1 hr1 hpr1 => ?_)
  refine g_icmp_ge hK hx3 hpr1 (tgt := 43) (by decide) d7_allOf_9 (fun _ => ?_) (fun _ => ?_)
  · refine g_iload_n hK 2 rfl rfl d7_allOf_43 ?_
    exact g_iret hK hx2 rfl rfl d7_allOf_44
  · refine g_iload_n hK 2 rfl rfl d7_allOf_12 ?_
    refine g_aload_n hK 0 rfl rfl d7_allOf_13 ?_
    refine g_getM hK zfin_7 (fa_7_8 kc_292) q_1205 (w := 6) (by decide) d7_allOf_14 (fun hm1 => ?_)
    refine g_getRN hK zfin_6 (fa_6_7 hm1) qn_1151 (pt_6_field hm1) d7_allOf_17 ?_
    refine g_aload_n hK 0 rfl rfl d7_allOf_20 ?_
    refine g_iload_n hK 3 rfl rfl d7_allOf_21 ?_
    refine g_callVco hK (mk := mkI) (rm := rm7_of) (cb := 0) (sb := 0) (As := [.int (zi x3)]) (b := 292) (n := 1) (c7_of K.2.1 hK.2.2.2.2.2.2.2.2.1 Z x3 μ hx3) rfl (ci := 7) rfl (by decide) kc_292 q_1479 q_1481 qs_7_of q_7 q_1482 rfl (by decide +kernel) (by decide) (Nat.le_of_ble_eq_true rfl) (Nat.le_of_ble_eq_true rfl) (Nat.le_of_ble_eq_true rfl) rfl d7_allOf_22 (fun r2 hr2 hpr2 => ?_)
    refine g_iald hK (pt_6_field_k hm1) d7_allOf_25 (fun _ hl1 => ?_)
    refine g_iload_n hK 1 rfl rfl d7_allOf_26 ?_
    refine g_icmp_ne hK hl1 ha1 (tgt := 34) (by decide) d7_allOf_27 (fun _ => ?_) (fun _ => ?_)
    · refine g_iconst hK d7_allOf_34 zki0 ?_
      refine g_iadd hK d7_allOf_35 (fun v1 hv1 => ?_)
      refine g_istore_n hK (lv2 := [(0, .ref (Z.2.2.1 + 292)), (1, .int (zi a1)), (2, .int (zi v1)), (3, .int (zi x3))]) [1, 2, 0, 3] rfl rfl (by decide) d7_allOf_36 ?_
      refine g_iinc hK (lv2 := fun v2 => [(0, .ref (Z.2.2.1 + 292)), (1, .int (zi a1)), (2, .int (zi v1)), (3, .int (zi v2))]) 3 rfl [1, 2, 3, 0] (fun _ => rfl) (by decide) d7_allOf_37 (fun v2 hv2 => ?_)
      refine g_goto hK (tgt := 4) (by decide) d7_allOf_40 ?_
      exact hk4 v1 v2  hv1 hv2
    · refine g_iconst hK d7_allOf_30 zki1 ?_
      refine g_goto hK (tgt := 35) (by decide) d7_allOf_31 ?_
      refine g_iadd hK d7_allOf_35 (fun v3 hv3 => ?_)
      refine g_istore_n hK (lv2 := [(0, .ref (Z.2.2.1 + 292)), (1, .int (zi a1)), (2, .int (zi v3)), (3, .int (zi x3))]) [1, 2, 0, 3] rfl rfl (by decide) d7_allOf_36 ?_
      refine g_iinc hK (lv2 := fun v4 => [(0, .ref (Z.2.2.1 + 292)), (1, .int (zi a1)), (2, .int (zi v3)), (3, .int (zi v4))]) 3 rfl [1, 2, 3, 0] (fun _ => rfl) (by decide) d7_allOf_37 (fun v4 hv4 => ?_)
      refine g_goto hK (tgt := 4) (by decide) d7_allOf_40 ?_
      exact hk4 v3 v4  hv3 hv4
set_option maxRecDepth 20000 in
theorem l7_allOf_4 {K : zK} {Z : zZ} (hcx : zOk K Z b7_allOf RX7 4 (some .int) 1 29 0 0 ∧ ∀ x ∈ K.2.2.2.2.2.2.2.2.2.exceptionTable.toList, False) (a1 : Int) (μ : zM) (ha1 : zr a1) : ∀ (i9 : Nat) (x2 : Int) (x3 : Int) (hx2 : zr x2) (hx3 : zr x3), zG K Z (zΩ Z) (zF K Z (zΩ Z) (zeP mkI μ)) 0 0 4 [(0, .ref (Z.2.2.1 + 292)), (1, .int (zi a1)), (2, .int (zi x2)), (3, .int (zi x3))] [] μ (zfx (f7_allOf_4 a1 μ) (fun _ _ => none) i9 x2 x3) := by
  intro i9
  induction i9 with
  | zero => intro x2 x3 hx2 hx3; exact g_none
  | succ i9 ih => intro x2 x3 hx2 hx3; exact p7_allOf_4 hcx a1 μ ha1  (zfx (f7_allOf_4 a1 μ) (fun _ _ => none) i9) ih x2 x3 hx2 hx3
set_option maxRecDepth 20000 in
theorem c7_allOf (l : Launch) (hst : l.stackTraces = false) (Z : zZ) (a1 : Int) (μ : zM) (ha1 : zr a1) : ∀ x, f7_allOf a1 μ = some x → zCt l Z (zΩ Z) y7_allOf (zws (.code y7_allOf b7_allOf 4 (some .int))) rm7_allOf [.ref (Z.2.2.1 + 292), .int (zi a1)] μ (zeP mkI μ x) := by
  intro x h
  refine zCt.of (enc := (zeP mkI μ)) h (by decide) hst (Nat.le_of_ble_eq_true rfl) (fun K hK0 hex hl _ => ?_)
  subst hl
  have hcx : zOk K Z b7_allOf RX7 4 (some .int) 1 29 0 0 ∧ ∀ x ∈ K.2.2.2.2.2.2.2.2.2.exceptionTable.toList, False := ⟨hK0, hex⟩
  have hK := hcx.1
  show zG K Z (zΩ Z) (zF K Z (zΩ Z) (zeP mkI μ)) 0 0 0 [(0, .ref (Z.2.2.1 + 292)), (1, .int (zi a1))] [] μ (f7_allOf a1 μ)
  unfold f7_allOf
  refine g_iconst hK d7_allOf_0 zki0 ?_
  refine g_istore_n hK (lv2 := [(0, .ref (Z.2.2.1 + 292)), (1, .int (zi a1)), (2, .int (zi 0))]) [1, 2, 0] rfl rfl (by decide) d7_allOf_1 ?_
  refine g_iconst hK d7_allOf_2 zki0 ?_
  refine g_istore_n hK (lv2 := [(0, .ref (Z.2.2.1 + 292)), (1, .int (zi a1)), (2, .int (zi 0)), (3, .int (zi 0))]) [1, 2, 3, 0] rfl rfl (by decide) d7_allOf_3 ?_
  exact l7_allOf_4 hcx a1 μ ha1  zFu 0 0  zc0 zc0
set_option maxRecDepth 20000 in
theorem p7_field_41 {K : zK} {Z : zZ} (hcx : zOk K Z b7_field RX7 3 (some .int) 43 1112 0 0 ∧ ∀ x ∈ K.2.2.2.2.2.2.2.2.2.exceptionTable.toList, False) (a1 : Int) (a2 : Int) (ha1 : zr a1) (ha2 : zr a2) (s0 : Int) (μ : zM) (hs0 : zr s0) : zG K Z (zΩ Z) (zF K Z (zΩ Z) (ze2 mkI)) 0 0 41 [(0, .ref (Z.2.2.1 + 292)), (1, .int (zi a1)), (2, .int (zi a2))] [.int (zi s0), .ref (Z.2.2.1 + 292)] μ (f7_field_41 a1 a2 s0 μ) := by
  obtain ⟨hK, hex⟩ := id hcx
  unfold f7_field_41
  refine g_iconst hK d7_field_41 zki2 ?_
  refine g_callVcl hK (mk := mkZ) (rm := rm7_throwsIf) (cb := 0) (sb := 0) (As := [.int (zi s0), .int (zi 2)]) (b := 292) (n := 2) (c7_throwsIf K.2.1 hK.2.2.2.2.2.2.2.2.1 Z s0 2 μ hs0 zc2) rfl (ci := 7) rfl (by decide) kc_292 q_1317 q_1319 qs_7_throwsIf q_7 q_1320 rfl (by decide +kernel) (by decide) (Nat.le_of_ble_eq_true rfl) (Nat.le_of_ble_eq_true rfl) (Nat.le_of_ble_eq_true rfl) rfl d7_field_42 (fun r4 m3 hr4 hpr4 => ?_)
  refine g_if_ne hK (zb_r r4) (tgt := 56) (by decide) d7_field_45 (fun _ => ?_) (fun _ => ?_)
  · refine g_iconst hK d7_field_56 zki0 ?_
    exact g_iret hK zc0 rfl rfl d7_field_57
  · refine g_aload_n hK 0 rfl rfl d7_field_48 ?_
    refine g_iconst hK d7_field_49 zki3 ?_
    refine g_callVcl hK (mk := mkZ) (rm := rm7_noSession) (cb := 0) (sb := 0) (As := [.int (zi 3)]) (b := 292) (n := 1) (c7_noSession K.2.1 hK.2.2.2.2.2.2.2.2.1 Z 3 m3 zc3) rfl (ci := 7) rfl (by decide) kc_292 q_1518 q_1520 qs_7_noSession q_7 q_1521 rfl (by decide +kernel) (by decide) (Nat.le_of_ble_eq_true rfl) (Nat.le_of_ble_eq_true rfl) (Nat.le_of_ble_eq_true rfl) rfl d7_field_50 (fun r5 m4 hr5 hpr5 => ?_)
    refine g_if_eq hK (zb_r r5) (tgt := 58) (by decide) d7_field_53 (fun _ => ?_) (fun _ => ?_)
    · refine g_aload_n hK 0 rfl rfl d7_field_58 ?_
      refine g_callVcm hK (rm := rm7_laysLeaving) (cb := 0) (sb := 0) (As := []) (b := 292) (n := 0) (c7_laysLeaving K.2.1 hK.2.2.2.2.2.2.2.2.1 Z  m4 ) rfl (ci := 7) rfl (by decide) kc_292 q_1522 q_1524 qs_7_laysLeaving q_7 q_1525 rfl (by decide +kernel) (by decide) (Nat.le_of_ble_eq_true rfl) (Nat.le_of_ble_eq_true rfl) (Nat.le_of_ble_eq_true rfl) rfl d7_field_59 (fun m5 hm5 => ?_)
      refine g_iload_n hK 2 rfl rfl d7_field_62 ?_
      refine g_case (fun hs0 => ?_) (fun hs0 => ?_)
      · refine g_tabIn hK (v := 0) (tgt := 100) ha2 hs0 (by decide) (by decide) rfl (by decide) d7_field_63 ?_
        refine g_aload_n hK 0 rfl rfl d7_field_100 ?_
        refine g_getI hK zfin_7 (fa_7_27 kc_292) q_1224 d7_field_101 (fun hf1 => ?_)
        refine g_iload_n hK 1 rfl rfl d7_field_104 ?_
        refine g_callSco hK (mk := mkZ) (rm := rm7_has) (cb := 0) (sb := 0) (As := [.int (zi (zI m5 292 27)), .int (zi a1)]) (n := 2) (c7_has K.2.1 hK.2.2.2.2.2.2.2.2.1 Z (zI m5 292 27) a1 m5 hf1 ha1) q_1390 q_1391 q_7 q_1392 rfl (by decide +kernel) (by decide) (Nat.le_of_ble_eq_true rfl) (Nat.le_of_ble_eq_true rfl) (Nat.le_of_ble_eq_true rfl) rfl d7_field_105 (fun r6 hr6 hpr6 => ?_)
        refine g_if_eq hK (zb_r r6) (tgt := 115) (by decide) d7_field_108 (fun _ => ?_) (fun _ => ?_)
        · refine g_iconst hK d7_field_115 zki0 ?_
          exact g_iret hK zc0 rfl rfl d7_field_116
        · refine g_iconst hK d7_field_111 zki1 ?_
          refine g_goto hK (tgt := 116) (by decide) d7_field_112 ?_
          exact g_iret hK zc1 rfl rfl d7_field_116
      refine g_case (fun hs1 => ?_) (fun hs1 => ?_)
      · refine g_tabIn hK (v := 1) (tgt := 117) ha2 hs1 (by decide) (by decide) rfl (by decide) d7_field_63 ?_
        refine g_aload_n hK 0 rfl rfl d7_field_117 ?_
        refine g_iload_n hK 1 rfl rfl d7_field_118 ?_
        refine g_callVco hK (mk := mkZ) (rm := rm7_isTyped) (cb := 0) (sb := 0) (As := [.int (zi a1)]) (b := 292) (n := 1) (c7_isTyped K.2.1 hK.2.2.2.2.2.2.2.2.1 Z a1 m5 ha1) rfl (ci := 7) rfl (by decide) kc_292 q_1483 q_1485 qs_7_isTyped q_7 q_1486 rfl (by decide +kernel) (by decide) (Nat.le_of_ble_eq_true rfl) (Nat.le_of_ble_eq_true rfl) (Nat.le_of_ble_eq_true rfl) rfl d7_field_119 (fun r7 hr7 hpr7 => ?_)
        refine g_if_eq hK (zb_r r7) (tgt := 129) (by decide) d7_field_122 (fun _ => ?_) (fun _ => ?_)
        · refine g_iconst hK d7_field_129 zki0 ?_
          exact g_iret hK zc0 rfl rfl d7_field_130
        · refine g_iconst hK d7_field_125 zki1 ?_
          refine g_goto hK (tgt := 130) (by decide) d7_field_126 ?_
          exact g_iret hK zc1 rfl rfl d7_field_130
      refine g_case (fun hs2 => ?_) (fun hs2 => ?_)
      · refine g_tabIn hK (v := 2) (tgt := 131) ha2 hs2 (by decide) (by decide) rfl (by decide) d7_field_63 ?_
        refine g_aload_n hK 0 rfl rfl d7_field_131 ?_
        refine g_iload_n hK 1 rfl rfl d7_field_132 ?_
        refine g_callVco hK (mk := mkI) (rm := rm7_shownOf) (cb := 0) (sb := 0) (As := [.int (zi a1)]) (b := 292) (n := 1) (c7_shownOf K.2.1 hK.2.2.2.2.2.2.2.2.1 Z a1 m5 ha1) rfl (ci := 7) rfl (by decide) kc_292 q_1534 q_1536 qs_7_shownOf q_7 q_1537 rfl (by decide +kernel) (by decide) (Nat.le_of_ble_eq_true rfl) (Nat.le_of_ble_eq_true rfl) (Nat.le_of_ble_eq_true rfl) rfl d7_field_133 (fun r8 hr8 hpr8 => ?_)
        exact g_iret hK hpr8 rfl rfl d7_field_136
      refine g_case (fun hs3 => ?_) (fun hs3 => ?_)
      · refine g_tabIn hK (v := 3) (tgt := 137) ha2 hs3 (by decide) (by decide) rfl (by decide) d7_field_63 ?_
        refine g_aload_n hK 0 rfl rfl d7_field_137 ?_
        refine g_getR hK zfin_7 (fa_7_25 kc_292) q_1222 (r := 331) (by decide +kernel) d7_field_138 ?_
        refine g_iload_n hK 1 rfl rfl d7_field_141 ?_
        refine g_iald hK kc_331 d7_field_142 (fun _ hl1 => ?_)
        exact g_iret hK hl1 rfl rfl d7_field_143
      refine g_case (fun hs4 => ?_) (fun hs4 => ?_)
      · refine g_tabIn hK (v := 4) (tgt := 144) ha2 hs4 (by decide) (by decide) rfl (by decide) d7_field_63 ?_
        refine g_aload_n hK 0 rfl rfl d7_field_144 ?_
        refine g_iload_n hK 1 rfl rfl d7_field_145 ?_
        refine g_callVco hK (mk := mkI) (rm := rm7_placeOf) (cb := 0) (sb := 0) (As := [.int (zi a1)]) (b := 292) (n := 1) (c7_placeOf K.2.1 hK.2.2.2.2.2.2.2.2.1 Z a1 m5 ha1) rfl (ci := 7) rfl (by decide) kc_292 q_1538 q_1540 qs_7_placeOf q_7 q_1541 rfl (by decide +kernel) (by decide) (Nat.le_of_ble_eq_true rfl) (Nat.le_of_ble_eq_true rfl) (Nat.le_of_ble_eq_true rfl) rfl d7_field_146 (fun r9 hr9 hpr9 => ?_)
        exact g_iret hK hpr9 rfl rfl d7_field_149
      refine g_case (fun hs5 => ?_) (fun hs5 => ?_)
      · refine g_tabIn hK (v := 5) (tgt := 150) ha2 hs5 (by decide) (by decide) rfl (by decide) d7_field_63 ?_
        refine g_aload_n hK 0 rfl rfl d7_field_150 ?_
        refine g_iload_n hK 1 rfl rfl d7_field_151 ?_
        refine g_callVcl hK (mk := mkI) (rm := (rmGA 40)) (cb := 0) (sb := 0) (As := [.int (zi a1)]) (b := 292) (n := 1) (c7_valueLength 40 K.2.1 hK.2.2.2.2.2.2.2.2.1 Z a1 m5 ha1) rfl (ci := 7) rfl (by decide) kc_292 q_1499 q_1501 qs_7_valueLength q_7 q_1502 rfl (by decide +kernel) (by decide) (Nat.le_of_ble_eq_true rfl) (Nat.le_of_ble_eq_true rfl) (Nat.le_of_ble_eq_true rfl) rfl d7_field_152 (fun r10 m6 hr10 hpr10 => ?_)
        exact g_iret hK hpr10 rfl rfl d7_field_155
      refine g_tabOut hK (tgt := 156) ha2 (by omega) (by decide) d7_field_63 ?_
      refine g_aload_n hK 0 rfl rfl d7_field_156 ?_
      refine g_iload_n hK 1 rfl rfl d7_field_157 ?_
      refine g_callVco hK (mk := mkI) (rm := rm7_allOf) (cb := 0) (sb := 0) (As := [.int (zi a1)]) (b := 292) (n := 1) (c7_allOf K.2.1 hK.2.2.2.2.2.2.2.2.1 Z a1 m5 ha1) rfl (ci := 7) rfl (by decide) kc_292 q_1542 q_1544 qs_7_allOf q_7 q_1545 rfl (by decide +kernel) (by decide) (Nat.le_of_ble_eq_true rfl) (Nat.le_of_ble_eq_true rfl) (Nat.le_of_ble_eq_true rfl) rfl d7_field_158 (fun r11 hr11 hpr11 => ?_)
      exact g_iret hK hpr11 rfl rfl d7_field_161
    · refine g_iconst hK d7_field_56 zki0 ?_
      exact g_iret hK zc0 rfl rfl d7_field_57
set_option maxRecDepth 20000 in
theorem p7_field_18 {K : zK} {Z : zZ} (hcx : zOk K Z b7_field RX7 3 (some .int) 43 1112 0 0 ∧ ∀ x ∈ K.2.2.2.2.2.2.2.2.2.exceptionTable.toList, False) (a1 : Int) (a2 : Int) (ha1 : zr a1) (ha2 : zr a2) (s0 : Int) (μ : zM) (hs0 : zr s0) : zG K Z (zΩ Z) (zF K Z (zΩ Z) (ze2 mkI)) 0 0 18 [(0, .ref (Z.2.2.1 + 292)), (1, .int (zi a1)), (2, .int (zi a2))] [.int (zi s0), .ref (Z.2.2.1 + 292)] μ (f7_field_18 a1 a2 s0 μ) := by
  obtain ⟨hK, hex⟩ := id hcx
  unfold f7_field_18
  refine g_iconst hK d7_field_18 zki1 ?_
  refine g_callVcl hK (mk := mkZ) (rm := rm7_throwsIf) (cb := 0) (sb := 0) (As := [.int (zi s0), .int (zi 1)]) (b := 292) (n := 2) (c7_throwsIf K.2.1 hK.2.2.2.2.2.2.2.2.1 Z s0 1 μ hs0 zc1) rfl (ci := 7) rfl (by decide) kc_292 q_1317 q_1319 qs_7_throwsIf q_7 q_1320 rfl (by decide +kernel) (by decide) (Nat.le_of_ble_eq_true rfl) (Nat.le_of_ble_eq_true rfl) (Nat.le_of_ble_eq_true rfl) rfl d7_field_19 (fun r2 m2 hr2 hpr2 => ?_)
  refine g_if_ne hK (zb_r r2) (tgt := 56) (by decide) d7_field_22 (fun _ => ?_) (fun _ => ?_)
  · refine g_iconst hK d7_field_56 zki0 ?_
    exact g_iret hK zc0 rfl rfl d7_field_57
  · refine g_aload_n hK 0 rfl rfl d7_field_25 ?_
    refine g_iload_n hK 2 rfl rfl d7_field_26 ?_
    refine g_iconst hK d7_field_27 zki0 ?_
    refine g_bipush hK d7_field_28 zkb6 ?_
    refine g_callSco hK (mk := mkZ) (rm := rm7_within) (cb := 0) (sb := 0) (As := [.int (zi a2), .int (zi 0), .int (zi 6)]) (n := 3) (c7_within K.2.1 hK.2.2.2.2.2.2.2.2.1 Z a2 0 6 m2 ha2 zc0 zc6) q_1344 q_1345 q_7 q_1346 rfl (by decide +kernel) (by decide) (Nat.le_of_ble_eq_true rfl) (Nat.le_of_ble_eq_true rfl) (Nat.le_of_ble_eq_true rfl) rfl d7_field_30 (fun r3 hr3 hpr3 => ?_)
    refine g_if_ne hK (zb_r r3) (tgt := 40) (by decide) d7_field_33 (fun _ => ?_) (fun _ => ?_)
    · refine g_iconst hK d7_field_40 zki0 ?_
      exact p7_field_41 hcx a1 a2 ha1 ha2  0 m2 zc0
    · refine g_iconst hK d7_field_36 zki1 ?_
      refine g_goto hK (tgt := 41) (by decide) d7_field_37 ?_
      exact p7_field_41 hcx a1 a2 ha1 ha2  1 m2 zc1
set_option maxRecDepth 20000 in
theorem c7_field (l : Launch) (hst : l.stackTraces = false) (Z : zZ) (a1 : Int) (a2 : Int) (μ : zM) (ha1 : zr a1) (ha2 : zr a2) : ∀ x, f7_field a1 a2 μ = some x → zCt l Z (zΩ Z) y7_field (zws (.code y7_field b7_field 3 (some .int))) rm7_field [.ref (Z.2.2.1 + 292), .int (zi a1), .int (zi a2)] μ (ze2 mkI x) := by
  intro x h
  refine zCt.of (enc := (ze2 mkI)) h (by decide) hst (Nat.le_of_ble_eq_true rfl) (fun K hK0 hex hl _ => ?_)
  subst hl
  have hcx : zOk K Z b7_field RX7 3 (some .int) 43 1112 0 0 ∧ ∀ x ∈ K.2.2.2.2.2.2.2.2.2.exceptionTable.toList, False := ⟨hK0, hex⟩
  have hK := hcx.1
  show zG K Z (zΩ Z) (zF K Z (zΩ Z) (ze2 mkI)) 0 0 0 [(0, .ref (Z.2.2.1 + 292)), (1, .int (zi a1)), (2, .int (zi a2))] [] μ (f7_field a1 a2 μ)
  unfold f7_field
  refine g_aload_n hK 0 rfl rfl d7_field_0 ?_
  refine g_iconst hK d7_field_1 zki0 ?_
  refine g_putI hK zfin_7 (fa_7_0 kc_292) q_1197 zc0 rfl (tyX7_ok 0 (by decide)) tyX7 tyX7_ok nmX7 d7_field_2 ?_
  refine g_ltM (fun m1 => ?_)
  refine g_aload_n hK 0 rfl rfl d7_field_5 ?_
  refine g_iload_n hK 1 rfl rfl d7_field_6 ?_
  refine g_callSco hK (mk := mkZ) (rm := rm7_isField) (cb := 0) (sb := 0) (As := [.int (zi a1)]) (n := 1) (c7_isField K.2.1 hK.2.2.2.2.2.2.2.2.1 Z a1 m1 ha1) q_1456 q_1457 q_7 q_1458 rfl (by decide +kernel) (by decide) (Nat.le_of_ble_eq_true rfl) (Nat.le_of_ble_eq_true rfl) (Nat.le_of_ble_eq_true rfl) rfl d7_field_7 (fun r1 hr1 hpr1 => ?_)
  refine g_if_ne hK (zb_r r1) (tgt := 17) (by decide) d7_field_10 (fun _ => ?_) (fun _ => ?_)
  · refine g_iconst hK d7_field_17 zki0 ?_
    exact p7_field_18 hcx a1 a2 ha1 ha2  0 m1 zc0
  · refine g_iconst hK d7_field_13 zki1 ?_
    refine g_goto hK (tgt := 18) (by decide) d7_field_14 ?_
    exact p7_field_18 hcx a1 a2 ha1 ha2  1 m1 zc1
set_option maxRecDepth 20000 in
theorem p7_value_18 {K : zK} {Z : zZ} (hcx : zOk K Z b7_value RX7 3 (some .int) 84 2175 0 0 ∧ ∀ x ∈ K.2.2.2.2.2.2.2.2.2.exceptionTable.toList, False) (a1 : Int) (a2 : Int) (ha1 : zr a1) (ha2 : zr a2) (s0 : Int) (μ : zM) (hs0 : zr s0) : zG K Z (zΩ Z) (zF K Z (zΩ Z) (ze2 mkI)) 0 0 18 [(0, .ref (Z.2.2.1 + 292)), (1, .int (zi a1)), (2, .int (zi a2))] [.int (zi s0), .ref (Z.2.2.1 + 292)] μ (f7_value_18 a1 a2 s0 μ) := by
  obtain ⟨hK, hex⟩ := id hcx
  unfold f7_value_18
  refine g_iconst hK d7_value_18 zki1 ?_
  refine g_callVcl hK (mk := mkZ) (rm := rm7_throwsIf) (cb := 0) (sb := 0) (As := [.int (zi s0), .int (zi 1)]) (b := 292) (n := 2) (c7_throwsIf K.2.1 hK.2.2.2.2.2.2.2.2.1 Z s0 1 μ hs0 zc1) rfl (ci := 7) rfl (by decide) kc_292 q_1317 q_1319 qs_7_throwsIf q_7 q_1320 rfl (by decide +kernel) (by decide) (Nat.le_of_ble_eq_true rfl) (Nat.le_of_ble_eq_true rfl) (Nat.le_of_ble_eq_true rfl) rfl d7_value_19 (fun r2 m2 hr2 hpr2 => ?_)
  refine g_if_ne hK (zb_r r2) (tgt := 33) (by decide) d7_value_22 (fun _ => ?_) (fun _ => ?_)
  · refine g_iconst hK d7_value_33 zki0 ?_
    exact g_iret hK zc0 rfl rfl d7_value_34
  · refine g_aload_n hK 0 rfl rfl d7_value_25 ?_
    refine g_iconst hK d7_value_26 zki2 ?_
    refine g_callVcl hK (mk := mkZ) (rm := rm7_noSession) (cb := 0) (sb := 0) (As := [.int (zi 2)]) (b := 292) (n := 1) (c7_noSession K.2.1 hK.2.2.2.2.2.2.2.2.1 Z 2 m2 zc2) rfl (ci := 7) rfl (by decide) kc_292 q_1518 q_1520 qs_7_noSession q_7 q_1521 rfl (by decide +kernel) (by decide) (Nat.le_of_ble_eq_true rfl) (Nat.le_of_ble_eq_true rfl) (Nat.le_of_ble_eq_true rfl) rfl d7_value_27 (fun r3 m3 hr3 hpr3 => ?_)
    refine g_if_eq hK (zb_r r3) (tgt := 35) (by decide) d7_value_30 (fun _ => ?_) (fun _ => ?_)
    · refine g_aload_n hK 0 rfl rfl d7_value_35 ?_
      refine g_iconst hK d7_value_36 zki0 ?_
      refine g_putI hK zfin_7 (fa_7_29 kc_292) q_1226 zc0 rfl (tyX7_ok 29 (by decide)) tyX7 tyX7_ok nmX7 d7_value_37 ?_
      refine g_ltM (fun m4 => ?_)
      refine g_aload_n hK 0 rfl rfl d7_value_40 ?_
      refine g_iload_n hK 1 rfl rfl d7_value_41 ?_
      refine g_callVcm hK (rm := (rmGB 40)) (cb := 0) (sb := 0) (As := [.int (zi a1)]) (b := 292) (n := 1) (c7_writesValue 40 K.2.1 hK.2.2.2.2.2.2.2.2.1 Z a1 m4 ha1) rfl (ci := 7) rfl (by decide) kc_292 q_1550 q_1552 qs_7_writesValue q_7 q_1553 rfl (by decide +kernel) (by decide) (Nat.le_of_ble_eq_true rfl) (Nat.le_of_ble_eq_true rfl) (Nat.le_of_ble_eq_true rfl) rfl d7_value_42 (fun m5 hm5 => ?_)
      refine g_iload_n hK 2 rfl rfl d7_value_45 ?_
      refine g_iconst hK d7_value_46 zki0 ?_
      refine g_aload_n hK 0 rfl rfl d7_value_47 ?_
      refine g_getI hK zfin_7 (fa_7_29 kc_292) q_1226 d7_value_48 (fun hf1 => ?_)
      refine g_iconst hK d7_value_51 zki1 ?_
      refine g_isub hK d7_value_52 (fun v1 hv1 => ?_)
      refine g_callSco hK (mk := mkZ) (rm := rm7_within) (cb := 0) (sb := 0) (As := [.int (zi a2), .int (zi 0), .int (zi v1)]) (n := 3) (c7_within K.2.1 hK.2.2.2.2.2.2.2.2.1 Z a2 0 v1 m5 ha2 zc0 hv1) q_1344 q_1345 q_7 q_1346 rfl (by decide +kernel) (by decide) (Nat.le_of_ble_eq_true rfl) (Nat.le_of_ble_eq_true rfl) (Nat.le_of_ble_eq_true rfl) rfl d7_value_53 (fun r4 hr4 hpr4 => ?_)
      refine g_if_eq hK (zb_r r4) (tgt := 68) (by decide) d7_value_56 (fun _ => ?_) (fun _ => ?_)
      · refine g_iconst hK d7_value_68 zkim1 ?_
        exact g_iret hK zcm1 rfl rfl d7_value_69
      · refine g_aload_n hK 0 rfl rfl d7_value_59 ?_
        refine g_getR hK zfin_7 (fa_7_28 kc_292) q_1225 (r := 333) (by decide +kernel) d7_value_60 ?_
        refine g_iload_n hK 2 rfl rfl d7_value_63 ?_
        refine g_iald hK kc_333 d7_value_64 (fun _ hl1 => ?_)
        refine g_goto hK (tgt := 69) (by decide) d7_value_65 ?_
        exact g_iret hK hl1 rfl rfl d7_value_69
    · refine g_iconst hK d7_value_33 zki0 ?_
      exact g_iret hK zc0 rfl rfl d7_value_34
set_option maxRecDepth 20000 in
theorem c7_value (l : Launch) (hst : l.stackTraces = false) (Z : zZ) (a1 : Int) (a2 : Int) (μ : zM) (ha1 : zr a1) (ha2 : zr a2) : ∀ x, f7_value a1 a2 μ = some x → zCt l Z (zΩ Z) y7_value (zws (.code y7_value b7_value 3 (some .int))) rm7_value [.ref (Z.2.2.1 + 292), .int (zi a1), .int (zi a2)] μ (ze2 mkI x) := by
  intro x h
  refine zCt.of (enc := (ze2 mkI)) h (by decide) hst (Nat.le_of_ble_eq_true rfl) (fun K hK0 hex hl _ => ?_)
  subst hl
  have hcx : zOk K Z b7_value RX7 3 (some .int) 84 2175 0 0 ∧ ∀ x ∈ K.2.2.2.2.2.2.2.2.2.exceptionTable.toList, False := ⟨hK0, hex⟩
  have hK := hcx.1
  show zG K Z (zΩ Z) (zF K Z (zΩ Z) (ze2 mkI)) 0 0 0 [(0, .ref (Z.2.2.1 + 292)), (1, .int (zi a1)), (2, .int (zi a2))] [] μ (f7_value a1 a2 μ)
  unfold f7_value
  refine g_aload_n hK 0 rfl rfl d7_value_0 ?_
  refine g_iconst hK d7_value_1 zki0 ?_
  refine g_putI hK zfin_7 (fa_7_0 kc_292) q_1197 zc0 rfl (tyX7_ok 0 (by decide)) tyX7 tyX7_ok nmX7 d7_value_2 ?_
  refine g_ltM (fun m1 => ?_)
  refine g_aload_n hK 0 rfl rfl d7_value_5 ?_
  refine g_iload_n hK 1 rfl rfl d7_value_6 ?_
  refine g_callSco hK (mk := mkZ) (rm := rm7_isField) (cb := 0) (sb := 0) (As := [.int (zi a1)]) (n := 1) (c7_isField K.2.1 hK.2.2.2.2.2.2.2.2.1 Z a1 m1 ha1) q_1456 q_1457 q_7 q_1458 rfl (by decide +kernel) (by decide) (Nat.le_of_ble_eq_true rfl) (Nat.le_of_ble_eq_true rfl) (Nat.le_of_ble_eq_true rfl) rfl d7_value_7 (fun r1 hr1 hpr1 => ?_)
  refine g_if_ne hK (zb_r r1) (tgt := 17) (by decide) d7_value_10 (fun _ => ?_) (fun _ => ?_)
  · refine g_iconst hK d7_value_17 zki0 ?_
    exact p7_value_18 hcx a1 a2 ha1 ha2  0 m1 zc0
  · refine g_iconst hK d7_value_13 zki1 ?_
    refine g_goto hK (tgt := 18) (by decide) d7_value_14 ?_
    exact p7_value_18 hcx a1 a2 ha1 ha2  1 m1 zc1
set_option maxRecDepth 20000 in
theorem p7_laysBegins_85 {K : zK} {Z : zZ} {n : Nat} (hcx : zOk K Z b7_laysBegins RX7 9 (some .int) (43 + (n + 1)) (1111 + (n + 1) * 28) 0 0 ∧ ∀ x ∈ K.2.2.2.2.2.2.2.2.2.exceptionTable.toList, False) (R_laysBegins : (Int → Int → Int → zM → Option (Int × zM))) (hR_laysBegins : ∀ (a1 : Int) (a2 : Int) (a3 : Int) (μ : zM) (ha1 : zr a1) (ha2 : zr a2) (ha3 : zr a3), ∀ x, R_laysBegins a1 a2 a3 μ = some x → zCt K.2.1 Z (zΩ Z) y7_laysBegins (zws (.code y7_laysBegins b7_laysBegins 9 (some .int))) (rmGC n) [.ref (Z.2.2.1 + 292), .int (zi a1), .int (zi a2), .int (zi a3)] μ (ze2 mkI x)) (a1 : Int) (a2 : Int) (a3 : Int) (ha1 : zr a1) (ha2 : zr a2) (ha3 : zr a3) (k6 : Int → Int → zM → Option (Int × zM)) (hk6 : ∀ (x4 : Int) (x5 : Int) (μ : zM) (hx4 : zr x4) (hx5 : zr x5), zG K Z (zΩ Z) (zF K Z (zΩ Z) (ze2 mkI)) 0 0 6 [(0, .ref (Z.2.2.1 + 292)), (2, .int (zi a2)), (4, .int (zi x4)), (5, .int (zi x5))] [] μ (k6 x4 x5 μ)) (x4 : Int) (x7 : Int) (μ : zM) (hx4 : zr x4) (hx7 : zr x7) : zG K Z (zΩ Z) (zF K Z (zΩ Z) (ze2 mkI)) 0 0 85 [(0, .ref (Z.2.2.1 + 292)), (2, .int (zi a2)), (4, .int (zi x4)), (7, .int (zi x7))] [] μ (f7_laysBegins_85 R_laysBegins a1 a2 a3 k6 x4 x7 μ) := by
  obtain ⟨hK, hex⟩ := id hcx
  unfold f7_laysBegins_85
  refine g_iload hK 2 rfl d7_laysBegins_85 ?_
  refine g_aload_n hK 0 rfl rfl d7_laysBegins_87 ?_
  refine g_iload hK 3 rfl d7_laysBegins_88 ?_
  refine g_callVcl hK (mk := mkI) (rm := (rmGA 40)) (cb := 0) (sb := 0) (As := [.int (zi x7)]) (b := 292) (n := 1) (c7_lengthAt 40 K.2.1 hK.2.2.2.2.2.2.2.2.1 Z x7 μ hx7) rfl (ci := 7) rfl (by decide) kc_292 q_1495 q_1497 qs_7_lengthAt q_7 q_1498 rfl (by decide +kernel) (by decide) (by simp only [rmGA]; omega) (by simp only [rmGA]; omega) (Nat.le_of_ble_eq_true rfl) rfl d7_laysBegins_90 (fun r3 m3 hr3 hpr3 => ?_)
  refine g_iadd hK d7_laysBegins_93 (fun v6 hv6 => ?_)
  refine g_istore hK (lv2 := [(0, .ref (Z.2.2.1 + 292)), (2, .int (zi a2)), (4, .int (zi v6)), (7, .int (zi x7))]) [1, 2, 0, 3] rfl (by decide) d7_laysBegins_94 ?_
  refine g_aload_n hK 0 rfl rfl d7_laysBegins_96 ?_
  refine g_getM hK zfin_7 (fa_7_8 kc_292) q_1205 (w := 6) (by decide) d7_laysBegins_97 (fun hm3 => ?_)
  refine g_getRN hK zfin_6 (fa_6_12 hm3) qn_1161 (pt_6_to hm3) d7_laysBegins_100 ?_
  refine g_aload_n hK 0 rfl rfl d7_laysBegins_103 ?_
  refine g_iload hK 3 rfl d7_laysBegins_104 ?_
  refine g_callVco hK (mk := mkI) (rm := rm7_of) (cb := 0) (sb := 0) (As := [.int (zi x7)]) (b := 292) (n := 1) (c7_of K.2.1 hK.2.2.2.2.2.2.2.2.1 Z x7 m3 hx7) rfl (ci := 7) rfl (by decide) kc_292 q_1479 q_1481 qs_7_of q_7 q_1482 rfl (by decide +kernel) (by decide) (by simp only [rm7_of]; omega) (by simp only [rm7_of]; omega) (Nat.le_of_ble_eq_true rfl) rfl d7_laysBegins_106 (fun r4 hr4 hpr4 => ?_)
  refine g_iald hK (pt_6_to_k hm3) d7_laysBegins_109 (fun _ hl4 => ?_)
  refine g_iconst hK d7_laysBegins_110 zki1 ?_
  refine g_iadd hK d7_laysBegins_111 (fun v7 hv7 => ?_)
  refine g_istore hK (lv2 := [(0, .ref (Z.2.2.1 + 292)), (2, .int (zi a2)), (4, .int (zi v6)), (5, .int (zi v7)), (7, .int (zi x7))]) [1, 2, 3, 0, 4] rfl (by decide) d7_laysBegins_112 ?_
  refine g_goto hK (tgt := 123) (by decide) d7_laysBegins_114 ?_
  refine g_goto hK (tgt := 6) (by decide) d7_laysBegins_123 ?_
  refine g_lv (lv2 := [(0, .ref (Z.2.2.1 + 292)), (2, .int (zi a2)), (4, .int (zi v6)), (5, .int (zi v7))]) [0, 1, 2, 3] rfl ?_
  exact hk6 v6 v7 m3 hv6 hv7
