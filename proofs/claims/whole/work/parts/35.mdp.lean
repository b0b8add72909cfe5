set_option maxRecDepth 20000 in
theorem c7_sum (l : Launch) (hst : l.stackTraces = false) (Z : zZ) (a1 : Int) (a2 : Int) (μ : zM) (ha1 : zr a1) (ha2 : zr a2) : ∀ x, f7_sum a1 a2 = some x → zCt l Z (zΩ Z) y7_sum (zws (.code y7_sum b7_sum 2 (some .int))) rm7_sum [.int (zi a1), .int (zi a2)] μ (zeP mkI μ x) := by
  intro x h
  refine zCt.of (enc := (zeP mkI μ)) h (by decide) hst (Nat.le_of_ble_eq_true rfl) (fun K hK0 hex hl _ => ?_)
  subst hl
  have hcx : zOk K Z b7_sum RX7 2 (some .int) 0 8 0 0 ∧ ∀ x ∈ K.2.2.2.2.2.2.2.2.2.exceptionTable.toList, False := ⟨hK0, hex⟩
  have hK := hcx.1
  show zG K Z (zΩ Z) (zF K Z (zΩ Z) (zeP mkI μ)) 0 0 0 [(0, .int (zi a1)), (1, .int (zi a2))] [] μ (f7_sum a1 a2)
  unfold f7_sum
  refine g_iload_n hK 0 rfl rfl d7_sum_0 ?_
  refine g_iload_n hK 1 rfl rfl d7_sum_1 ?_
  refine g_iadd hK d7_sum_2 (fun v1 hv1 => ?_)
  refine g_ldcw hK (v := 100000) q_1509 d7_sum_3 ?_
  refine g_icmp_le hK hv1 zc100000 (tgt := 15) (by decide) d7_sum_6 (fun _ => ?_) (fun _ => ?_)
  · refine g_iload_n hK 0 rfl rfl d7_sum_15 ?_
    refine g_iload_n hK 1 rfl rfl d7_sum_16 ?_
    refine g_iadd hK d7_sum_17 (fun v2 hv2 => ?_)
    exact g_iret hK hv2 rfl rfl d7_sum_18
  · refine g_ldcw hK (v := 100000) q_1509 d7_sum_9 ?_
    refine g_goto hK (tgt := 18) (by decide) d7_sum_12 ?_
    exact g_iret hK zc100000 rfl rfl d7_sum_18
set_option maxRecDepth 20000 in
theorem p7_changed_26 {K : zK} {Z : zZ} (hcx : zOk K Z b7_changed RX7 4 (some .int) 0 8 0 0 ∧ ∀ x ∈ K.2.2.2.2.2.2.2.2.2.exceptionTable.toList, False) (a1 : Int) (a2 : Int) (μ : zM) (ha1 : zr a1) (ha2 : zr a2) (k26 : Int → Int → Option Int) (hk26 : ∀ (x2 : Int) (x3 : Int) (hx2 : zr x2) (hx3 : zr x3), zG K Z (zΩ Z) (zF K Z (zΩ Z) (zeP mkI μ)) 0 0 26 [(2, .int (zi x2)), (3, .int (zi x3))] [] μ (k26 x2 x3)) (x2 : Int) (x3 : Int) (hx2 : zr x2) (hx3 : zr x3) : zG K Z (zΩ Z) (zF K Z (zΩ Z) (zeP mkI μ)) 0 0 26 [(2, .int (zi x2)), (3, .int (zi x3))] [] μ (f7_changed_26 a1 a2 k26 x2 x3) := by
  obtain ⟨hK, hex⟩ := id hcx
  unfold f7_changed_26
  refine g_iload_n hK 1 rfl rfl d7_changed_26 ?_
  refine g_bipush hK d7_changed_27 zkb9 ?_
  refine g_icmp_le hK hx3 zc9 (tgt := 43) (by decide) d7_changed_29 (fun _ => ?_) (fun _ => ?_)
  · refine g_iload_n hK 0 rfl rfl d7_changed_43 ?_
    exact g_iret hK hx2 rfl rfl d7_changed_44
  · refine g_iinc hK (lv2 := fun v1 => [(2, .int (zi v1)), (3, .int (zi x3))]) 0 rfl [0, 1] (fun _ => rfl) (by decide) d7_changed_32 (fun v1 hv1 => ?_)
    refine g_iload_n hK 1 rfl rfl d7_changed_35 ?_
    refine g_bipush hK d7_changed_36 zkb10 ?_
    refine g_idiv hK d7_changed_38 zc10 (by decide) (fun v2 hv2 => ?_)
    refine g_istore_n hK (lv2 := [(2, .int (zi v1)), (3, .int (zi v2))]) [1, 0] rfl rfl (by decide) d7_changed_39 ?_
    refine g_goto hK (tgt := 26) (by decide) d7_changed_40 ?_
    exact hk26 v1 v2  hv1 hv2
set_option maxRecDepth 20000 in
theorem l7_changed_26 {K : zK} {Z : zZ} (hcx : zOk K Z b7_changed RX7 4 (some .int) 0 8 0 0 ∧ ∀ x ∈ K.2.2.2.2.2.2.2.2.2.exceptionTable.toList, False) (a1 : Int) (a2 : Int) (μ : zM) (ha1 : zr a1) (ha2 : zr a2) : ∀ (i9 : Nat) (x2 : Int) (x3 : Int) (hx2 : zr x2) (hx3 : zr x3), zG K Z (zΩ Z) (zF K Z (zΩ Z) (zeP mkI μ)) 0 0 26 [(2, .int (zi x2)), (3, .int (zi x3))] [] μ (zfx (f7_changed_26 a1 a2) (fun _ _ => none) i9 x2 x3) := by
  intro i9
  induction i9 with
  | zero => intro x2 x3 hx2 hx3; exact g_none
  | succ i9 ih => intro x2 x3 hx2 hx3; exact p7_changed_26 hcx a1 a2 μ ha1 ha2  (zfx (f7_changed_26 a1 a2) (fun _ _ => none) i9) ih x2 x3 hx2 hx3
set_option maxRecDepth 20000 in
theorem c7_changed (l : Launch) (hst : l.stackTraces = false) (Z : zZ) (a1 : Int) (a2 : Int) (μ : zM) (ha1 : zr a1) (ha2 : zr a2) : ∀ x, f7_changed a1 a2 = some x → zCt l Z (zΩ Z) y7_changed (zws (.code y7_changed b7_changed 4 (some .int))) rm7_changed [.int (zi a1), .int (zi a2)] μ (zeP mkI μ x) := by
  intro x h
  refine zCt.of (enc := (zeP mkI μ)) h (by decide) hst (Nat.le_of_ble_eq_true rfl) (fun K hK0 hex hl _ => ?_)
  subst hl
  have hcx : zOk K Z b7_changed RX7 4 (some .int) 0 8 0 0 ∧ ∀ x ∈ K.2.2.2.2.2.2.2.2.2.exceptionTable.toList, False := ⟨hK0, hex⟩
  have hK := hcx.1
  show zG K Z (zΩ Z) (zF K Z (zΩ Z) (zeP mkI μ)) 0 0 0 [(0, .int (zi a1)), (1, .int (zi a2))] [] μ (f7_changed a1 a2)
  unfold f7_changed
  refine g_iload_n hK 0 rfl rfl d7_changed_0 ?_
  refine g_iconst hK d7_changed_1 zki4 ?_
  refine g_icmp_ne hK ha1 zc4 (tgt := 15) (by decide) d7_changed_2 (fun _ => ?_) (fun _ => ?_)
  · refine g_iload_n hK 0 rfl rfl d7_changed_15 ?_
    refine g_iconst hK d7_changed_16 zki5 ?_
    refine g_icmp_eq hK ha1 zc5 (tgt := 22) (by decide) d7_changed_17 (fun _ => ?_) (fun _ => ?_)
    · refine g_iconst hK d7_changed_22 zki1 ?_
      refine g_istore_n hK (lv2 := [(0, .int (zi a1)), (1, .int (zi a2)), (2, .int (zi 1))]) [1, 2, 0] rfl rfl (by decide) d7_changed_23 ?_
      refine g_iload_n hK 1 rfl rfl d7_changed_24 ?_
      refine g_istore_n hK (lv2 := [(0, .int (zi a1)), (1, .int (zi a2)), (2, .int (zi 1)), (3, .int (zi a2))]) [1, 2, 3, 0] rfl rfl (by decide) d7_changed_25 ?_
      refine g_lv (lv2 := [(2, .int (zi 1)), (3, .int (zi a2))]) [2, 3] rfl ?_
      exact l7_changed_26 hcx a1 a2 μ ha1 ha2  zFu 1 a2  zc1 ha2
    · refine g_iload_n hK 1 rfl rfl d7_changed_20 ?_
      exact g_iret hK ha2 rfl rfl d7_changed_21
  · refine g_iload_n hK 1 rfl rfl d7_changed_5 ?_
    refine g_if_le hK ha2 (tgt := 13) (by decide) d7_changed_6 (fun _ => ?_) (fun _ => ?_)
    · refine g_iconst hK d7_changed_13 zki0 ?_
      exact g_iret hK zc0 rfl rfl d7_changed_14
    · refine g_iconst hK d7_changed_9 zki1 ?_
      refine g_goto hK (tgt := 14) (by decide) d7_changed_10 ?_
      exact g_iret hK zc1 rfl rfl d7_changed_14
set_option maxRecDepth 20000 in
theorem p7_valueLength_88 {K : zK} {Z : zZ} {n : Nat} (hcx : zOk K Z b7_valueLength RX7 3 (some .int) (2 + (n + 1)) (50 + (n + 1) * 26) 0 0 ∧ ∀ x ∈ K.2.2.2.2.2.2.2.2.2.exceptionTable.toList, False) (R_valueLength : (Int → zM → Option (Int × zM))) (hR_valueLength : ∀ (a1 : Int) (μ : zM) (ha1 : zr a1), ∀ x, R_valueLength a1 μ = some x → zCt K.2.1 Z (zΩ Z) y7_valueLength (zws (.code y7_valueLength b7_valueLength 3 (some .int))) (rmGA n) [.ref (Z.2.2.1 + 292), .int (zi a1)] μ (ze2 mkI x)) (R_lengthAt : (Int → zM → Option (Int × zM))) (hR_lengthAt : ∀ (a1 : Int) (μ : zM) (ha1 : zr a1), ∀ x, R_lengthAt a1 μ = some x → zCt K.2.1 Z (zΩ Z) y7_lengthAt (zws (.code y7_lengthAt b7_lengthAt 2 (some .int))) (rmGA n) [.ref (Z.2.2.1 + 292), .int (zi a1)] μ (ze2 mkI x)) (R_bodyLength : (Int → Int → zM → Option (Int × zM))) (hR_bodyLength : ∀ (a1 : Int) (a2 : Int) (μ : zM) (ha1 : zr a1) (ha2 : zr a2), ∀ x, R_bodyLength a1 a2 μ = some x → zCt K.2.1 Z (zΩ Z) y7_bodyLength (zws (.code y7_bodyLength b7_bodyLength 7 (some .int))) (rmGA n) [.ref (Z.2.2.1 + 292), .int (zi a1), .int (zi a2)] μ (ze2 mkI x)) (a1 : Int) (ha1 : zr a1) (μ : zM) : zG K Z (zΩ Z) (zF K Z (zΩ Z) (ze2 mkI)) 0 0 88 [(0, .ref (Z.2.2.1 + 292)), (1, .int (zi a1))] [] μ (f7_valueLength_88 R_valueLength R_lengthAt R_bodyLength a1 μ) := by
  obtain ⟨hK, hex⟩ := id hcx
  unfold f7_valueLength_88
  refine g_aload_n hK 0 rfl rfl d7_valueLength_88 ?_
  refine g_getR hK zfin_7 (fa_7_26 kc_292) q_1223 (r := 332) (by decide +kernel) d7_valueLength_89 ?_
  refine g_iload_n hK 1 rfl rfl d7_valueLength_92 ?_
  refine g_iald hK kc_332 d7_valueLength_93 (fun _ hl6 => ?_)
  exact g_iret hK hl6 rfl rfl d7_valueLength_94
set_option maxRecDepth 20000 in
theorem p7_valueLength_87 {K : zK} {Z : zZ} {n : Nat} (hcx : zOk K Z b7_valueLength RX7 3 (some .int) (2 + (n + 1)) (50 + (n + 1) * 26) 0 0 ∧ ∀ x ∈ K.2.2.2.2.2.2.2.2.2.exceptionTable.toList, False) (R_valueLength : (Int → zM → Option (Int × zM))) (hR_valueLength : ∀ (a1 : Int) (μ : zM) (ha1 : zr a1), ∀ x, R_valueLength a1 μ = some x → zCt K.2.1 Z (zΩ Z) y7_valueLength (zws (.code y7_valueLength b7_valueLength 3 (some .int))) (rmGA n) [.ref (Z.2.2.1 + 292), .int (zi a1)] μ (ze2 mkI x)) (R_lengthAt : (Int → zM → Option (Int × zM))) (hR_lengthAt : ∀ (a1 : Int) (μ : zM) (ha1 : zr a1), ∀ x, R_lengthAt a1 μ = some x → zCt K.2.1 Z (zΩ Z) y7_lengthAt (zws (.code y7_lengthAt b7_lengthAt 2 (some .int))) (rmGA n) [.ref (Z.2.2.1 + 292), .int (zi a1)] μ (ze2 mkI x)) (R_bodyLength : (Int → Int → zM → Option (Int × zM))) (hR_bodyLength : ∀ (a1 : Int) (a2 : Int) (μ : zM) (ha1 : zr a1) (ha2 : zr a2), ∀ x, R_bodyLength a1 a2 μ = some x → zCt K.2.1 Z (zΩ Z) y7_bodyLength (zws (.code y7_bodyLength b7_bodyLength 7 (some .int))) (rmGA n) [.ref (Z.2.2.1 + 292), .int (zi a1), .int (zi a2)] μ (ze2 mkI x)) (a1 : Int) (ha1 : zr a1) (s0 : Int) (s1 : Int) (μ : zM) (hs0 : zr s0) (hs1 : zr s1) : zG K Z (zΩ Z) (zF K Z (zΩ Z) (ze2 mkI)) 0 0 87 [(0, .ref (Z.2.2.1 + 292)), (1, .int (zi a1))] [.int (zi s0), .int (zi s1), .ref (Z.2.2.1 + 332)] μ (f7_valueLength_87 R_valueLength R_lengthAt R_bodyLength a1 s0 s1 μ) := by
  obtain ⟨hK, hex⟩ := id hcx
  unfold f7_valueLength_87
  refine g_iast hK hs0 kc_332 d7_valueLength_87 (fun _ => ?_)
  refine g_ltM (fun m2 => ?_)
  exact p7_valueLength_88 hcx R_valueLength hR_valueLength R_lengthAt hR_lengthAt R_bodyLength hR_bodyLength a1 ha1   m2 
set_option maxRecDepth 20000 in
theorem c7_valueLength_o (l : Launch) (hst : l.stackTraces = false) (Z : zZ) {n : Nat} (R_valueLength : (Int → zM → Option (Int × zM))) (hR_valueLength : ∀ (a1 : Int) (μ : zM) (ha1 : zr a1), ∀ x, R_valueLength a1 μ = some x → zCt l Z (zΩ Z) y7_valueLength (zws (.code y7_valueLength b7_valueLength 3 (some .int))) (rmGA n) [.ref (Z.2.2.1 + 292), .int (zi a1)] μ (ze2 mkI x)) (R_lengthAt : (Int → zM → Option (Int × zM))) (hR_lengthAt : ∀ (a1 : Int) (μ : zM) (ha1 : zr a1), ∀ x, R_lengthAt a1 μ = some x → zCt l Z (zΩ Z) y7_lengthAt (zws (.code y7_lengthAt b7_lengthAt 2 (some .int))) (rmGA n) [.ref (Z.2.2.1 + 292), .int (zi a1)] μ (ze2 mkI x)) (R_bodyLength : (Int → Int → zM → Option (Int × zM))) (hR_bodyLength : ∀ (a1 : Int) (a2 : Int) (μ : zM) (ha1 : zr a1) (ha2 : zr a2), ∀ x, R_bodyLength a1 a2 μ = some x → zCt l Z (zΩ Z) y7_bodyLength (zws (.code y7_bodyLength b7_bodyLength 7 (some .int))) (rmGA n) [.ref (Z.2.2.1 + 292), .int (zi a1), .int (zi a2)] μ (ze2 mkI x)) (a1 : Int) (μ : zM) (ha1 : zr a1) : ∀ x, f7_valueLength_o R_valueLength R_lengthAt R_bodyLength a1 μ = some x → zCt l Z (zΩ Z) y7_valueLength (zws (.code y7_valueLength b7_valueLength 3 (some .int))) (rmGA (n + 1)) [.ref (Z.2.2.1 + 292), .int (zi a1)] μ (ze2 mkI x) := by
  intro x h
  refine zCt.of (enc := (ze2 mkI)) h (by decide) hst (Nat.le_of_ble_eq_true rfl) (fun K hK0 hex hl _ => ?_)
  subst hl
  have hcx : zOk K Z b7_valueLength RX7 3 (some .int) (2 + (n + 1)) (50 + (n + 1) * 26) 0 0 ∧ ∀ x ∈ K.2.2.2.2.2.2.2.2.2.exceptionTable.toList, False := ⟨hK0, hex⟩
  have hK := hcx.1
  show zG K Z (zΩ Z) (zF K Z (zΩ Z) (ze2 mkI)) 0 0 0 [(0, .ref (Z.2.2.1 + 292)), (1, .int (zi a1))] [] μ (f7_valueLength_o R_valueLength R_lengthAt R_bodyLength a1 μ)
  unfold f7_valueLength_o
  refine g_aload_n hK 0 rfl rfl d7_valueLength_0 ?_
  refine g_getR hK zfin_7 (fa_7_26 kc_292) q_1223 (r := 332) (by decide +kernel) d7_valueLength_1 ?_
  refine g_iload_n hK 1 rfl rfl d7_valueLength_4 ?_
  refine g_iald hK kc_332 d7_valueLength_5 (fun _ hl1 => ?_)
  refine g_iconst hK d7_valueLength_6 zkim1 ?_
  refine g_icmp_ne hK hl1 zcm1 (tgt := 88) (by decide) d7_valueLength_7 (fun _ => ?_) (fun _ => ?_)
  · exact p7_valueLength_88 hcx R_valueLength hR_valueLength R_lengthAt hR_lengthAt R_bodyLength hR_bodyLength a1 ha1   μ 
  · refine g_aload_n hK 0 rfl rfl d7_valueLength_10 ?_
    refine g_getR hK zfin_7 (fa_7_25 kc_292) q_1222 (r := 331) (by decide +kernel) d7_valueLength_11 ?_
    refine g_iload_n hK 1 rfl rfl d7_valueLength_14 ?_
    refine g_iald hK kc_331 d7_valueLength_15 (fun _ hl2 => ?_)
    refine g_ltI hl2 (fun v1 hv1 => ?_)
    refine g_istore_n hK (lv2 := [(0, .ref (Z.2.2.1 + 292)), (1, .int (zi a1)), (2, .int (zi v1))]) [1, 2, 0] rfl rfl (by decide) d7_valueLength_16 ?_
    refine g_aload_n hK 0 rfl rfl d7_valueLength_17 ?_
    refine g_getR hK zfin_7 (fa_7_26 kc_292) q_1223 (r := 332) (by decide +kernel) d7_valueLength_18 ?_
    refine g_iload_n hK 1 rfl rfl d7_valueLength_21 ?_
    refine g_aload_n hK 0 rfl rfl d7_valueLength_22 ?_
    refine g_iload_n hK 1 rfl rfl d7_valueLength_23 ?_
    refine g_callVco hK (mk := mkZ) (rm := rm7_isTyped) (cb := 0) (sb := 0) (As := [.int (zi a1)]) (b := 292) (n := 1) (c7_isTyped K.2.1 hK.2.2.2.2.2.2.2.2.1 Z a1 μ ha1) rfl (ci := 7) rfl (by decide) kc_292 q_1483 q_1485 qs_7_isTyped q_7 q_1486 rfl (by decide +kernel) (by decide) (by simp only [rm7_isTyped]; omega) (by simp only [rm7_isTyped]; omega) (Nat.le_of_ble_eq_true rfl) rfl d7_valueLength_24 (fun r1 hr1 hpr1 => ?_)
    refine g_if_eq hK (zb_r r1) (tgt := 46) (by decide) d7_valueLength_27 (fun _ => ?_) (fun _ => ?_)
    · refine g_iload_n hK 2 rfl rfl d7_valueLength_46 ?_
      refine g_iconst hK d7_valueLength_47 zkim1 ?_
      refine g_icmp_ne hK hv1 zcm1 (tgt := 55) (by decide) d7_valueLength_48 (fun _ => ?_) (fun _ => ?_)
      · refine g_aload_n hK 0 rfl rfl d7_valueLength_55 ?_
        refine g_aload_n hK 0 rfl rfl d7_valueLength_56 ?_
        refine g_getM hK zfin_7 (fa_7_8 kc_292) q_1205 (w := 6) (by decide) d7_valueLength_57 (fun hm1 => ?_)
        refine g_getRN hK zfin_6 (fa_6_11 hm1) qn_1159 (pt_6_at hm1) d7_valueLength_60 ?_
        refine g_aload_n hK 0 rfl rfl d7_valueLength_63 ?_
        refine g_iload_n hK 2 rfl rfl d7_valueLength_64 ?_
        refine g_callVco hK (mk := mkI) (rm := rm7_of) (cb := 0) (sb := 0) (As := [.int (zi v1)]) (b := 292) (n := 1) (c7_of K.2.1 hK.2.2.2.2.2.2.2.2.1 Z v1 μ hv1) rfl (ci := 7) rfl (by decide) kc_292 q_1479 q_1481 qs_7_of q_7 q_1482 rfl (by decide +kernel) (by decide) (by simp only [rm7_of]; omega) (by simp only [rm7_of]; omega) (Nat.le_of_ble_eq_true rfl) rfl d7_valueLength_65 (fun r2 hr2 hpr2 => ?_)
        refine g_iald hK (pt_6_at_k hm1) d7_valueLength_68 (fun _ hl3 => ?_)
        refine g_iconst hK d7_valueLength_69 zki1 ?_
        refine g_iadd hK d7_valueLength_70 (fun v2 hv2 => ?_)
        refine g_aload_n hK 0 rfl rfl d7_valueLength_71 ?_
        refine g_getM hK zfin_7 (fa_7_8 kc_292) q_1205 (w := 6) (by decide) d7_valueLength_72 (fun hm2 => ?_)
        refine g_getRN hK zfin_6 (fa_6_12 hm2) qn_1161 (pt_6_to hm2) d7_valueLength_75 ?_
        refine g_aload_n hK 0 rfl rfl d7_valueLength_78 ?_
        refine g_iload_n hK 2 rfl rfl d7_valueLength_79 ?_
        refine g_callVco hK (mk := mkI) (rm := rm7_of) (cb := 0) (sb := 0) (As := [.int (zi v1)]) (b := 292) (n := 1) (c7_of K.2.1 hK.2.2.2.2.2.2.2.2.1 Z v1 μ hv1) rfl (ci := 7) rfl (by decide) kc_292 q_1479 q_1481 qs_7_of q_7 q_1482 rfl (by decide +kernel) (by decide) (by simp only [rm7_of]; omega) (by simp only [rm7_of]; omega) (Nat.le_of_ble_eq_true rfl) rfl d7_valueLength_80 (fun r3 hr3 hpr3 => ?_)
        refine g_iald hK (pt_6_to_k hm2) d7_valueLength_83 (fun _ hl4 => ?_)
        refine g_callVcl hK (mk := mkI) (rm := (rmGA n)) (cb := 0) (sb := 0) (As := [.int (zi v2), .int (zi (zI μ ((zR μ 292 8) + 11) (zx r3)))]) (b := 292) (n := 2) (hR_bodyLength v2 (zI μ ((zR μ 292 8) + 11) (zx r3)) μ hv2 hl4) rfl (ci := 7) rfl (by decide) kc_292 q_1491 q_1493 qs_7_bodyLength q_7 q_1494 rfl (by decide +kernel) (by decide) (by simp only [rmGA]; omega) (by simp only [rmGA]; omega) (Nat.le_of_ble_eq_true rfl) rfl d7_valueLength_84 (fun r4 m1 hr4 hpr4 => ?_)
        refine g_lv (lv2 := [(0, .ref (Z.2.2.1 + 292)), (1, .int (zi a1))]) [0, 1] rfl ?_
        exact p7_valueLength_87 hcx R_valueLength hR_valueLength R_lengthAt hR_lengthAt R_bodyLength hR_bodyLength a1 ha1  r4 a1 m1 hpr4 ha1
      · refine g_iconst hK d7_valueLength_51 zki0 ?_
        refine g_goto hK (tgt := 87) (by decide) d7_valueLength_52 ?_
        refine g_lv (lv2 := [(0, .ref (Z.2.2.1 + 292)), (1, .int (zi a1))]) [0, 1] rfl ?_
        exact p7_valueLength_87 hcx R_valueLength hR_valueLength R_lengthAt hR_lengthAt R_bodyLength hR_bodyLength a1 ha1  0 a1 μ zc0 ha1
    · refine g_aload_n hK 0 rfl rfl d7_valueLength_30 ?_
      refine g_getR hK zfin_7 (fa_7_1 kc_292) q_1198 (r := 293) (by decide +kernel) d7_valueLength_31 ?_
      refine g_aload_n hK 0 rfl rfl d7_valueLength_34 ?_
      refine g_getI hK zfin_7 (fa_7_22 kc_292) q_1219 d7_valueLength_35 (fun hf1 => ?_)
      refine g_iconst hK d7_valueLength_38 zki3 ?_
      refine g_iadd hK d7_valueLength_39 (fun v3 hv3 => ?_)
      refine g_iload_n hK 1 rfl rfl d7_valueLength_40 ?_
      refine g_iadd hK d7_valueLength_41 (fun v4 hv4 => ?_)
      refine g_iald hK kc_293 d7_valueLength_42 (fun _ hl5 => ?_)
      refine g_goto hK (tgt := 87) (by decide) d7_valueLength_43 ?_
      refine g_lv (lv2 := [(0, .ref (Z.2.2.1 + 292)), (1, .int (zi a1))]) [0, 1] rfl ?_
      exact p7_valueLength_87 hcx R_valueLength hR_valueLength R_lengthAt hR_lengthAt R_bodyLength hR_bodyLength a1 ha1  (zI μ 293 (zx v4)) a1 μ hl5 ha1
set_option maxRecDepth 20000 in
theorem c7_lengthAt_o (l : Launch) (hst : l.stackTraces = false) (Z : zZ) {n : Nat} (R_valueLength : (Int → zM → Option (Int × zM))) (hR_valueLength : ∀ (a1 : Int) (μ : zM) (ha1 : zr a1), ∀ x, R_valueLength a1 μ = some x → zCt l Z (zΩ Z) y7_valueLength (zws (.code y7_valueLength b7_valueLength 3 (some .int))) (rmGA n) [.ref (Z.2.2.1 + 292), .int (zi a1)] μ (ze2 mkI x)) (R_lengthAt : (Int → zM → Option (Int × zM))) (hR_lengthAt : ∀ (a1 : Int) (μ : zM) (ha1 : zr a1), ∀ x, R_lengthAt a1 μ = some x → zCt l Z (zΩ Z) y7_lengthAt (zws (.code y7_lengthAt b7_lengthAt 2 (some .int))) (rmGA n) [.ref (Z.2.2.1 + 292), .int (zi a1)] μ (ze2 mkI x)) (R_bodyLength : (Int → Int → zM → Option (Int × zM))) (hR_bodyLength : ∀ (a1 : Int) (a2 : Int) (μ : zM) (ha1 : zr a1) (ha2 : zr a2), ∀ x, R_bodyLength a1 a2 μ = some x → zCt l Z (zΩ Z) y7_bodyLength (zws (.code y7_bodyLength b7_bodyLength 7 (some .int))) (rmGA n) [.ref (Z.2.2.1 + 292), .int (zi a1), .int (zi a2)] μ (ze2 mkI x)) (a1 : Int) (μ : zM) (ha1 : zr a1) : ∀ x, f7_lengthAt_o R_valueLength R_lengthAt R_bodyLength a1 μ = some x → zCt l Z (zΩ Z) y7_lengthAt (zws (.code y7_lengthAt b7_lengthAt 2 (some .int))) (rmGA (n + 1)) [.ref (Z.2.2.1 + 292), .int (zi a1)] μ (ze2 mkI x) := by
  intro x h
  refine zCt.of (enc := (ze2 mkI)) h (by decide) hst (Nat.le_of_ble_eq_true rfl) (fun K hK0 hex hl _ => ?_)
  subst hl
  have hcx : zOk K Z b7_lengthAt RX7 2 (some .int) (2 + (n + 1)) (50 + (n + 1) * 26) 0 0 ∧ ∀ x ∈ K.2.2.2.2.2.2.2.2.2.exceptionTable.toList, False := ⟨hK0, hex⟩
  have hK := hcx.1
  show zG K Z (zΩ Z) (zF K Z (zΩ Z) (ze2 mkI)) 0 0 0 [(0, .ref (Z.2.2.1 + 292)), (1, .int (zi a1))] [] μ (f7_lengthAt_o R_valueLength R_lengthAt R_bodyLength a1 μ)
  unfold f7_lengthAt_o
  refine g_aload_n hK 0 rfl rfl d7_lengthAt_0 ?_
  refine g_getM hK zfin_7 (fa_7_8 kc_292) q_1205 (w := 6) (by decide) d7_lengthAt_1 (fun hm1 => ?_)
  refine g_getRN hK zfin_6 (fa_6_8 hm1) qn_1153 (pt_6_change hm1) d7_lengthAt_4 ?_
  refine g_aload_n hK 0 rfl rfl d7_lengthAt_7 ?_
  refine g_iload_n hK 1 rfl rfl d7_lengthAt_8 ?_
  refine g_callVco hK (mk := mkI) (rm := rm7_of) (cb := 0) (sb := 0) (As := [.int (zi a1)]) (b := 292) (n := 1) (c7_of K.2.1 hK.2.2.2.2.2.2.2.2.1 Z a1 μ ha1) rfl (ci := 7) rfl (by decide) kc_292 q_1479 q_1481 qs_7_of q_7 q_1482 rfl (by decide +kernel) (by decide) (by simp only [rm7_of]; omega) (by simp only [rm7_of]; omega) (Nat.le_of_ble_eq_true rfl) rfl d7_lengthAt_9 (fun r1 hr1 hpr1 => ?_)
  refine g_iald hK (pt_6_change_k hm1) d7_lengthAt_12 (fun _ hl1 => ?_)
  refine g_aload_n hK 0 rfl rfl d7_lengthAt_13 ?_
  refine g_aload_n hK 0 rfl rfl d7_lengthAt_14 ?_
  refine g_getM hK zfin_7 (fa_7_8 kc_292) q_1205 (w := 6) (by decide) d7_lengthAt_15 (fun hm2 => ?_)
  refine g_getRN hK zfin_6 (fa_6_7 hm2) qn_1151 (pt_6_field hm2) d7_lengthAt_18 ?_
  refine g_aload_n hK 0 rfl rfl d7_lengthAt_21 ?_
  refine g_iload_n hK 1 rfl rfl d7_lengthAt_22 ?_
  refine g_callVco hK (mk := mkI) (rm := rm7_of) (cb := 0) (sb := 0) (As := [.int (zi a1)]) (b := 292) (n := 1) (c7_of K.2.1 hK.2.2.2.2.2.2.2.2.1 Z a1 μ ha1) rfl (ci := 7) rfl (by decide) kc_292 q_1479 q_1481 qs_7_of q_7 q_1482 rfl (by decide +kernel) (by decide) (by simp only [rm7_of]; omega) (by simp only [rm7_of]; omega) (Nat.le_of_ble_eq_true rfl) rfl d7_lengthAt_23 (fun r2 hr2 hpr2 => ?_)
  refine g_iald hK (pt_6_field_k hm2) d7_lengthAt_26 (fun _ hl2 => ?_)
  refine g_callVcl hK (mk := mkI) (rm := (rmGA n)) (cb := 0) (sb := 0) (As := [.int (zi (zI μ ((zR μ 292 8) + 6) (zx r2)))]) (b := 292) (n := 1) (hR_valueLength (zI μ ((zR μ 292 8) + 6) (zx r2)) μ hl2) rfl (ci := 7) rfl (by decide) kc_292 q_1499 q_1501 qs_7_valueLength q_7 q_1502 rfl (by decide +kernel) (by decide) (by simp only [rmGA]; omega) (by simp only [rmGA]; omega) (Nat.le_of_ble_eq_true rfl) rfl d7_lengthAt_27 (fun r3 m1 hr3 hpr3 => ?_)
  refine g_callSco hK (mk := mkI) (rm := rm7_changed) (cb := 0) (sb := 0) (As := [.int (zi (zI μ ((zR μ 292 8) + 7) (zx r1))), .int (zi r3)]) (n := 2) (c7_changed K.2.1 hK.2.2.2.2.2.2.2.2.1 Z (zI μ ((zR μ 292 8) + 7) (zx r1)) r3 m1 hl1 hpr3) q_1503 q_1504 q_7 q_1505 rfl (by decide +kernel) (by decide) (by simp only [rm7_changed]; omega) (by simp only [rm7_changed]; omega) (Nat.le_of_ble_eq_true rfl) rfl d7_lengthAt_30 (fun r4 hr4 hpr4 => ?_)
  exact g_iret hK hpr4 rfl rfl d7_lengthAt_33
set_option maxRecDepth 20000 in
theorem p7_bodyLength_5 {K : zK} {Z : zZ} {n : Nat} (hcx : zOk K Z b7_bodyLength RX7 7 (some .int) (2 + (n + 1)) (50 + (n + 1) * 26) 0 0 ∧ ∀ x ∈ K.2.2.2.2.2.2.2.2.2.exceptionTable.toList, False) (R_valueLength : (Int → zM → Option (Int × zM))) (hR_valueLength : ∀ (a1 : Int) (μ : zM) (ha1 : zr a1), ∀ x, R_valueLength a1 μ = some x → zCt K.2.1 Z (zΩ Z) y7_valueLength (zws (.code y7_valueLength b7_valueLength 3 (some .int))) (rmGA n) [.ref (Z.2.2.1 + 292), .int (zi a1)] μ (ze2 mkI x)) (R_lengthAt : (Int → zM → Option (Int × zM))) (hR_lengthAt : ∀ (a1 : Int) (μ : zM) (ha1 : zr a1), ∀ x, R_lengthAt a1 μ = some x → zCt K.2.1 Z (zΩ Z) y7_lengthAt (zws (.code y7_lengthAt b7_lengthAt 2 (some .int))) (rmGA n) [.ref (Z.2.2.1 + 292), .int (zi a1)] μ (ze2 mkI x)) (R_bodyLength : (Int → Int → zM → Option (Int × zM))) (hR_bodyLength : ∀ (a1 : Int) (a2 : Int) (μ : zM) (ha1 : zr a1) (ha2 : zr a2), ∀ x, R_bodyLength a1 a2 μ = some x → zCt K.2.1 Z (zΩ Z) y7_bodyLength (zws (.code y7_bodyLength b7_bodyLength 7 (some .int))) (rmGA n) [.ref (Z.2.2.1 + 292), .int (zi a1), .int (zi a2)] μ (ze2 mkI x)) (a1 : Int) (a2 : Int) (ha1 : zr a1) (ha2 : zr a2) (k5 : Int → Int → zM → Option (Int × zM)) (hk5 : ∀ (x3 : Int) (x4 : Int) (μ : zM) (hx3 : zr x3) (hx4 : zr x4), zG K Z (zΩ Z) (zF K Z (zΩ Z) (ze2 mkI)) 0 0 5 [(0, .ref (Z.2.2.1 + 292)), (2, .int (zi a2)), (3, .int (zi x3)), (4, .int (zi x4))] [] μ (k5 x3 x4 μ)) (x3 : Int) (x4 : Int) (μ : zM) (hx3 : zr x3) (hx4 : zr x4) : zG K Z (zΩ Z) (zF K Z (zΩ Z) (ze2 mkI)) 0 0 5 [(0, .ref (Z.2.2.1 + 292)), (2, .int (zi a2)), (3, .int (zi x3)), (4, .int (zi x4))] [] μ (f7_bodyLength_5 R_valueLength R_lengthAt R_bodyLength a1 a2 k5 x3 x4 μ) := by
  obtain ⟨hK, hex⟩ := id hcx
  unfold f7_bodyLength_5
  refine g_iload hK 3 rfl d7_bodyLength_5 ?_
  refine g_iload_n hK 1 rfl rfl d7_bodyLength_7 ?_
  refine g_icmp_ge hK hx4 ha2 (tgt := 83) (by decide) d7_bodyLength_8 (fun _ => ?_) (fun _ => ?_)
  · refine g_iload_n hK 2 rfl rfl d7_bodyLength_83 ?_
    exact g_iret hK hx3 rfl rfl d7_bodyLength_84
  · refine g_aload_n hK 0 rfl rfl d7_bodyLength_11 ?_
    refine g_getM hK zfin_7 (fa_7_8 kc_292) q_1205 (w := 6) (by decide) d7_bodyLength_12 (fun hm1 => ?_)
    refine g_getRN hK zfin_6 (fa_6_5 hm1) qn_1147 (pt_6_items hm1) d7_bodyLength_15 ?_
    refine g_iload hK 3 rfl d7_bodyLength_18 ?_
    refine g_iald hK (pt_6_items_k hm1) d7_bodyLength_20 (fun _ hl1 => ?_)
    refine g_ltI hl1 (fun v1 hv1 => ?_)
    refine g_istore hK (lv2 := [(0, .ref (Z.2.2.1 + 292)), (2, .int (zi a2)), (3, .int (zi x3)), (4, .int (zi x4)), (5, .int (zi v1))]) [1, 2, 3, 4, 0] rfl (by decide) d7_bodyLength_21 ?_
    refine g_iload hK 4 rfl d7_bodyLength_23 ?_
    refine g_sipush hK d7_bodyLength_25 zks1000 ?_
    refine g_icmp_lt hK hv1 zc1000 (tgt := 71) (by decide) d7_bodyLength_28 (fun _ => ?_) (fun _ => ?_)
    · refine g_iload_n hK 2 rfl rfl d7_bodyLength_71 ?_
      refine g_iconst hK d7_bodyLength_72 zki1 ?_
      refine g_callSco hK (mk := mkI) (rm := rm7_sum) (cb := 0) (sb := 0) (As := [.int (zi x3), .int (zi 1)]) (n := 2) (c7_sum K.2.1 hK.2.2.2.2.2.2.2.2.1 Z x3 1 μ hx3 zc1) q_1506 q_1507 q_7 q_1508 rfl (by decide +kernel) (by decide) (by simp only [rm7_sum]; omega) (by simp only [rm7_sum]; omega) (Nat.le_of_ble_eq_true rfl) rfl d7_bodyLength_73 (fun r1 hr1 hpr1 => ?_)
      refine g_istore_n hK (lv2 := [(0, .ref (Z.2.2.1 + 292)), (2, .int (zi a2)), (3, .int (zi r1)), (4, .int (zi x4)), (5, .int (zi v1))]) [1, 2, 0, 3, 4] rfl rfl (by decide) d7_bodyLength_76 ?_
      refine g_iinc hK (lv2 := fun v2 => [(0, .ref (Z.2.2.1 + 292)), (2, .int (zi a2)), (3, .int (zi r1)), (4, .int (zi v2)), (5, .int (zi v1))]) 3 rfl [1, 2, 3, 0, 4] (fun _ => rfl) (by decide) d7_bodyLength_77 (fun v2 hv2 => ?_)
      refine g_goto hK (tgt := 5) (by decide) d7_bodyLength_80 ?_
      refine g_lv (lv2 := [(0, .ref (Z.2.2.1 + 292)), (2, .int (zi a2)), (3, .int (zi r1)), (4, .int (zi v2))]) [0, 1, 2, 3] rfl ?_
      exact hk5 r1 v2 μ hpr1 hv2
    · refine g_iload hK 4 rfl d7_bodyLength_31 ?_
      refine g_sipush hK d7_bodyLength_33 zks1000 ?_
      refine g_isub hK d7_bodyLength_36 (fun v3 hv3 => ?_)
      refine g_istore hK (lv2 := [(0, .ref (Z.2.2.1 + 292)), (2, .int (zi a2)), (3, .int (zi x3)), (4, .int (zi x4)), (5, .int (zi v1)), (6, .int (zi v3))]) [1, 2, 3, 4, 5, 0] rfl (by decide) d7_bodyLength_37 ?_
      refine g_iload_n hK 2 rfl rfl d7_bodyLength_39 ?_
      refine g_aload_n hK 0 rfl rfl d7_bodyLength_40 ?_
      refine g_iload hK 5 rfl d7_bodyLength_41 ?_
      refine g_callVcl hK (mk := mkI) (rm := (rmGA n)) (cb := 0) (sb := 0) (As := [.int (zi v3)]) (b := 292) (n := 1) (hR_lengthAt v3 μ hv3) rfl (ci := 7) rfl (by decide) kc_292 q_1495 q_1497 qs_7_lengthAt q_7 q_1498 rfl (by decide +kernel) (by decide) (by simp only [rmGA]; omega) (by simp only [rmGA]; omega) (Nat.le_of_ble_eq_true rfl) rfl d7_bodyLength_43 (fun r2 m1 hr2 hpr2 => ?_)
      refine g_callSco hK (mk := mkI) (rm := rm7_sum) (cb := 0) (sb := 0) (As := [.int (zi x3), .int (zi r2)]) (n := 2) (c7_sum K.2.1 hK.2.2.2.2.2.2.2.2.1 Z x3 r2 m1 hx3 hpr2) q_1506 q_1507 q_7 q_1508 rfl (by decide +kernel) (by decide) (by simp only [rm7_sum]; omega) (by simp only [rm7_sum]; omega) (Nat.le_of_ble_eq_true rfl) rfl d7_bodyLength_46 (fun r3 hr3 hpr3 => ?_)
      refine g_istore_n hK (lv2 := [(0, .ref (Z.2.2.1 + 292)), (2, .int (zi a2)), (3, .int (zi r3)), (4, .int (zi x4)), (5, .int (zi v1)), (6, .int (zi v3))]) [1, 2, 0, 3, 4, 5] rfl rfl (by decide) d7_bodyLength_49 ?_
      refine g_aload_n hK 0 rfl rfl d7_bodyLength_50 ?_
      refine g_getM hK zfin_7 (fa_7_8 kc_292) q_1205 (w := 6) (by decide) d7_bodyLength_51 (fun hm2 => ?_)
      refine g_getRN hK zfin_6 (fa_6_12 hm2) qn_1161 (pt_6_to hm2) d7_bodyLength_54 ?_
      refine g_aload_n hK 0 rfl rfl d7_bodyLength_57 ?_
      refine g_iload hK 5 rfl d7_bodyLength_58 ?_
      refine g_callVco hK (mk := mkI) (rm := rm7_of) (cb := 0) (sb := 0) (As := [.int (zi v3)]) (b := 292) (n := 1) (c7_of K.2.1 hK.2.2.2.2.2.2.2.2.1 Z v3 m1 hv3) rfl (ci := 7) rfl (by decide) kc_292 q_1479 q_1481 qs_7_of q_7 q_1482 rfl (by decide +kernel) (by decide) (by simp only [rm7_of]; omega) (by simp only [rm7_of]; omega) (Nat.le_of_ble_eq_true rfl) rfl d7_bodyLength_60 (fun r4 hr4 hpr4 => ?_)
      refine g_iald hK (pt_6_to_k hm2) d7_bodyLength_63 (fun _ hl2 => ?_)
      refine g_iconst hK d7_bodyLength_64 zki1 ?_
      refine g_iadd hK d7_bodyLength_65 (fun v4 hv4 => ?_)
      refine g_istore hK (lv2 := [(0, .ref (Z.2.2.1 + 292)), (2, .int (zi a2)), (3, .int (zi r3)), (4, .int (zi v4)), (5, .int (zi v1)), (6, .int (zi v3))]) [1, 2, 3, 0, 4, 5] rfl (by decide) d7_bodyLength_66 ?_
      refine g_goto hK (tgt := 80) (by decide) d7_bodyLength_68 ?_
      refine g_goto hK (tgt := 5) (by decide) d7_bodyLength_80 ?_
      refine g_lv (lv2 := [(0, .ref (Z.2.2.1 + 292)), (2, .int (zi a2)), (3, .int (zi r3)), (4, .int (zi v4))]) [0, 1, 2, 3] rfl ?_
      exact hk5 r3 v4 m1 hpr3 hv4
set_option maxRecDepth 20000 in
theorem l7_bodyLength_5 {K : zK} {Z : zZ} {n : Nat} (hcx : zOk K Z b7_bodyLength RX7 7 (some .int) (2 + (n + 1)) (50 + (n + 1) * 26) 0 0 ∧ ∀ x ∈ K.2.2.2.2.2.2.2.2.2.exceptionTable.toList, False) (R_valueLength : (Int → zM → Option (Int × zM))) (hR_valueLength : ∀ (a1 : Int) (μ : zM) (ha1 : zr a1), ∀ x, R_valueLength a1 μ = some x → zCt K.2.1 Z (zΩ Z) y7_valueLength (zws (.code y7_valueLength b7_valueLength 3 (some .int))) (rmGA n) [.ref (Z.2.2.1 + 292), .int (zi a1)] μ (ze2 mkI x)) (R_lengthAt : (Int → zM → Option (Int × zM))) (hR_lengthAt : ∀ (a1 : Int) (μ : zM) (ha1 : zr a1), ∀ x, R_lengthAt a1 μ = some x → zCt K.2.1 Z (zΩ Z) y7_lengthAt (zws (.code y7_lengthAt b7_lengthAt 2 (some .int))) (rmGA n) [.ref (Z.2.2.1 + 292), .int (zi a1)] μ (ze2 mkI x)) (R_bodyLength : (Int → Int → zM → Option (Int × zM))) (hR_bodyLength : ∀ (a1 : Int) (a2 : Int) (μ : zM) (ha1 : zr a1) (ha2 : zr a2), ∀ x, R_bodyLength a1 a2 μ = some x → zCt K.2.1 Z (zΩ Z) y7_bodyLength (zws (.code y7_bodyLength b7_bodyLength 7 (some .int))) (rmGA n) [.ref (Z.2.2.1 + 292), .int (zi a1), .int (zi a2)] μ (ze2 mkI x)) (a1 : Int) (a2 : Int) (ha1 : zr a1) (ha2 : zr a2) : ∀ (i9 : Nat) (x3 : Int) (x4 : Int) (μ : zM) (hx3 : zr x3) (hx4 : zr x4), zG K Z (zΩ Z) (zF K Z (zΩ Z) (ze2 mkI)) 0 0 5 [(0, .ref (Z.2.2.1 + 292)), (2, .int (zi a2)), (3, .int (zi x3)), (4, .int (zi x4))] [] μ (zfx (f7_bodyLength_5 R_valueLength R_lengthAt R_bodyLength a1 a2) (fun _ _ _ => none) i9 x3 x4 μ) := by
  intro i9
  induction i9 with
  | zero => intro x3 x4 μ hx3 hx4; exact g_none
  | succ i9 ih => intro x3 x4 μ hx3 hx4; exact p7_bodyLength_5 hcx R_valueLength hR_valueLength R_lengthAt hR_lengthAt R_bodyLength hR_bodyLength a1 a2 ha1 ha2  (zfx (f7_bodyLength_5 R_valueLength R_lengthAt R_bodyLength a1 a2) (fun _ _ _ => none) i9) ih x3 x4 μ hx3 hx4
set_option maxRecDepth 20000 in
theorem c7_bodyLength_o (l : Launch) (hst : l.stackTraces = false) (Z : zZ) {n : Nat} (R_valueLength : (Int → zM → Option (Int × zM))) (hR_valueLength : ∀ (a1 : Int) (μ : zM) (ha1 : zr a1), ∀ x, R_valueLength a1 μ = some x → zCt l Z (zΩ Z) y7_valueLength (zws (.code y7_valueLength b7_valueLength 3 (some .int))) (rmGA n) [.ref (Z.2.2.1 + 292), .int (zi a1)] μ (ze2 mkI x)) (R_lengthAt : (Int → zM → Option (Int × zM))) (hR_lengthAt : ∀ (a1 : Int) (μ : zM) (ha1 : zr a1), ∀ x, R_lengthAt a1 μ = some x → zCt l Z (zΩ Z) y7_lengthAt (zws (.code y7_lengthAt b7_lengthAt 2 (some .int))) (rmGA n) [.ref (Z.2.2.1 + 292), .int (zi a1)] μ (ze2 mkI x)) (R_bodyLength : (Int → Int → zM → Option (Int × zM))) (hR_bodyLength : ∀ (a1 : Int) (a2 : Int) (μ : zM) (ha1 : zr a1) (ha2 : zr a2), ∀ x, R_bodyLength a1 a2 μ = some x → zCt l Z (zΩ Z) y7_bodyLength (zws (.code y7_bodyLength b7_bodyLength 7 (some .int))) (rmGA n) [.ref (Z.2.2.1 + 292), .int (zi a1), .int (zi a2)] μ (ze2 mkI x)) (a1 : Int) (a2 : Int) (μ : zM) (ha1 : zr a1) (ha2 : zr a2) : ∀ x, f7_bodyLength_o R_valueLength R_lengthAt R_bodyLength a1 a2 μ = some x → zCt l Z (zΩ Z) y7_bodyLength (zws (.code y7_bodyLength b7_bodyLength 7 (some .int))) (rmGA (n + 1)) [.ref (Z.2.2.1 + 292), .int (zi a1), .int (zi a2)] μ (ze2 mkI x) := by
  intro x h
  refine zCt.of (enc := (ze2 mkI)) h (by decide) hst (Nat.le_of_ble_eq_true rfl) (fun K hK0 hex hl _ => ?_)
  subst hl
  have hcx : zOk K Z b7_bodyLength RX7 7 (some .int) (2 + (n + 1)) (50 + (n + 1) * 26) 0 0 ∧ ∀ x ∈ K.2.2.2.2.2.2.2.2.2.exceptionTable.toList, False := ⟨hK0, hex⟩
  have hK := hcx.1
  show zG K Z (zΩ Z) (zF K Z (zΩ Z) (ze2 mkI)) 0 0 0 [(0, .ref (Z.2.2.1 + 292)), (1, .int (zi a1)), (2, .int (zi a2))] [] μ (f7_bodyLength_o R_valueLength R_lengthAt R_bodyLength a1 a2 μ)
  unfold f7_bodyLength_o
  refine g_iconst hK d7_bodyLength_0 zki0 ?_
  refine g_istore_n hK (lv2 := [(0, .ref (Z.2.2.1 + 292)), (1, .int (zi a1)), (2, .int (zi a2)), (3, .int (zi 0))]) [1, 2, 3, 0] rfl rfl (by decide) d7_bodyLength_1 ?_
  refine g_iload_n hK 1 rfl rfl d7_bodyLength_2 ?_
  refine g_istore hK (lv2 := [(0, .ref (Z.2.2.1 + 292)), (1, .int (zi a1)), (2, .int (zi a2)), (3, .int (zi 0)), (4, .int (zi a1))]) [1, 2, 3, 4, 0] rfl (by decide) d7_bodyLength_3 ?_
  refine g_lv (lv2 := [(0, .ref (Z.2.2.1 + 292)), (2, .int (zi a2)), (3, .int (zi 0)), (4, .int (zi a1))]) [0, 2, 3, 4] rfl ?_
  exact l7_bodyLength_5 hcx R_valueLength hR_valueLength R_lengthAt hR_lengthAt R_bodyLength hR_bodyLength a1 a2 ha1 ha2  zFu 0 a1 μ zc0 ha1
set_option maxRecDepth 20000 in
theorem cGA (l : Launch) (hst : l.stackTraces = false) (Z : zZ) : ∀ n : Nat, (∀ (a1 : Int) (μ : zM) (ha1 : zr a1), ∀ x, f7_valueLength n a1 μ = some x → zCt l Z (zΩ Z) y7_valueLength (zws (.code y7_valueLength b7_valueLength 3 (some .int))) (rmGA n) [.ref (Z.2.2.1 + 292), .int (zi a1)] μ (ze2 mkI x)) ∧ (∀ (a1 : Int) (μ : zM) (ha1 : zr a1), ∀ x, f7_lengthAt n a1 μ = some x → zCt l Z (zΩ Z) y7_lengthAt (zws (.code y7_lengthAt b7_lengthAt 2 (some .int))) (rmGA n) [.ref (Z.2.2.1 + 292), .int (zi a1)] μ (ze2 mkI x)) ∧ (∀ (a1 : Int) (a2 : Int) (μ : zM) (ha1 : zr a1) (ha2 : zr a2), ∀ x, f7_bodyLength n a1 a2 μ = some x → zCt l Z (zΩ Z) y7_bodyLength (zws (.code y7_bodyLength b7_bodyLength 7 (some .int))) (rmGA n) [.ref (Z.2.2.1 + 292), .int (zi a1), .int (zi a2)] μ (ze2 mkI x)) := by
  intro n
  induction n with
  | zero => exact ⟨(by intros; rename_i h9; cases h9), (by intros; rename_i h9; cases h9), (by intros; rename_i h9; cases h9)⟩
  | succ n ih => exact ⟨c7_valueLength_o l hst Z (f7_valueLength n) ih.1 (f7_lengthAt n) ih.2.1 (f7_bodyLength n) ih.2.2, c7_lengthAt_o l hst Z (f7_valueLength n) ih.1 (f7_lengthAt n) ih.2.1 (f7_bodyLength n) ih.2.2, c7_bodyLength_o l hst Z (f7_valueLength n) ih.1 (f7_lengthAt n) ih.2.1 (f7_bodyLength n) ih.2.2⟩
set_option maxRecDepth 20000 in
theorem c7_valueLength (n : Nat) (l : Launch) (hst : l.stackTraces = false) (Z : zZ) (a1 : Int) (μ : zM) (ha1 : zr a1) : ∀ x, f7_valueLength n a1 μ = some x → zCt l Z (zΩ Z) y7_valueLength (zws (.code y7_valueLength b7_valueLength 3 (some .int))) (rmGA n) [.ref (Z.2.2.1 + 292), .int (zi a1)] μ (ze2 mkI x) := (cGA l hst Z n).1 a1 μ ha1
set_option maxRecDepth 20000 in
theorem c7_lengthAt (n : Nat) (l : Launch) (hst : l.stackTraces = false) (Z : zZ) (a1 : Int) (μ : zM) (ha1 : zr a1) : ∀ x, f7_lengthAt n a1 μ = some x → zCt l Z (zΩ Z) y7_lengthAt (zws (.code y7_lengthAt b7_lengthAt 2 (some .int))) (rmGA n) [.ref (Z.2.2.1 + 292), .int (zi a1)] μ (ze2 mkI x) := (cGA l hst Z n).2.1 a1 μ ha1
set_option maxRecDepth 20000 in
theorem c7_bodyLength (n : Nat) (l : Launch) (hst : l.stackTraces = false) (Z : zZ) (a1 : Int) (a2 : Int) (μ : zM) (ha1 : zr a1) (ha2 : zr a2) : ∀ x, f7_bodyLength n a1 a2 μ = some x → zCt l Z (zΩ Z) y7_bodyLength (zws (.code y7_bodyLength b7_bodyLength 7 (some .int))) (rmGA n) [.ref (Z.2.2.1 + 292), .int (zi a1), .int (zi a2)] μ (ze2 mkI x) := (cGA l hst Z n).2.2 a1 a2 μ ha1 ha2
set_option maxRecDepth 20000 in
theorem c7_textLength (l : Launch) (hst : l.stackTraces = false) (Z : zZ) (μ : zM) : ∀ x, f7_textLength μ = some x → zCt l Z (zΩ Z) y7_textLength (zws (.code y7_textLength b7_textLength 1 (some .int))) rm7_textLength [.ref (Z.2.2.1 + 292)] μ (ze2 mkI x) := by
  intro x h
  refine zCt.of (enc := (ze2 mkI)) h (by decide) hst (Nat.le_of_ble_eq_true rfl) (fun K hK0 hex hl _ => ?_)
  subst hl
  have hcx : zOk K Z b7_textLength RX7 1 (some .int) 43 1116 0 0 ∧ ∀ x ∈ K.2.2.2.2.2.2.2.2.2.exceptionTable.toList, False := ⟨hK0, hex⟩
  have hK := hcx.1
  show zG K Z (zΩ Z) (zF K Z (zΩ Z) (ze2 mkI)) 0 0 0 [(0, .ref (Z.2.2.1 + 292))] [] μ (f7_textLength μ)
  unfold f7_textLength
  refine g_aload_n hK 0 rfl rfl d7_textLength_0 ?_
  refine g_aload_n hK 0 rfl rfl d7_textLength_1 ?_
  refine g_getM hK zfin_7 (fa_7_8 kc_292) q_1205 (w := 6) (by decide) d7_textLength_2 (fun hm1 => ?_)
  refine g_getRN hK zfin_6 (fa_6_4 hm1) qn_1145 (pt_6_from hm1) d7_textLength_5 ?_
  refine g_aload_n hK 0 rfl rfl d7_textLength_8 ?_
  refine g_getI hK zfin_7 (fa_7_21 kc_292) q_1218 d7_textLength_9 (fun hf1 => ?_)
  refine g_iald hK (pt_6_from_k hm1) d7_textLength_12 (fun _ hl1 => ?_)
  refine g_aload_n hK 0 rfl rfl d7_textLength_13 ?_
  refine g_getM hK zfin_7 (fa_7_8 kc_292) q_1205 (w := 6) (by decide) d7_textLength_14 (fun hm2 => ?_)
  refine g_getRN hK zfin_6 (fa_6_4 hm2) qn_1145 (pt_6_from hm2) d7_textLength_17 ?_
  refine g_aload_n hK 0 rfl rfl d7_textLength_20 ?_
  refine g_getI hK zfin_7 (fa_7_21 kc_292) q_1218 d7_textLength_21 (fun hf2 => ?_)
  refine g_iconst hK d7_textLength_24 zki1 ?_
  refine g_iadd hK d7_textLength_25 (fun v1 hv1 => ?_)
  refine g_iald hK (pt_6_from_k hm2) d7_textLength_26 (fun _ hl2 => ?_)
  refine g_callVcl hK (mk := mkI) (rm := (rmGA 40)) (cb := 0) (sb := 0) (As := [.int (zi (zI μ ((zR μ 292 8) + 3) (zx (zI μ 292 21)))), .int (zi (zI μ ((zR μ 292 8) + 3) (zx v1)))]) (b := 292) (n := 2) (c7_bodyLength 40 K.2.1 hK.2.2.2.2.2.2.2.2.1 Z (zI μ ((zR μ 292 8) + 3) (zx (zI μ 292 21))) (zI μ ((zR μ 292 8) + 3) (zx v1)) μ hl1 hl2) rfl (ci := 7) rfl (by decide) kc_292 q_1491 q_1493 qs_7_bodyLength q_7 q_1494 rfl (by decide +kernel) (by decide) (Nat.le_of_ble_eq_true rfl) (Nat.le_of_ble_eq_true rfl) (Nat.le_of_ble_eq_true rfl) rfl d7_textLength_27 (fun r1 m1 hr1 hpr1 => ?_)
  exact g_iret hK hpr1 rfl rfl d7_textLength_30
set_option maxRecDepth 20000 in
theorem p7_writesNumber_18 {K : zK} {Z : zZ} (hcx : zOk K Z b7_writesNumber RX7 3 (none) 0 8 0 0 ∧ ∀ x ∈ K.2.2.2.2.2.2.2.2.2.exceptionTable.toList, False) (a1 : Int) (ha1 : zr a1) (k18 : Int → zM → Option zM) (hk18 : ∀ (x2 : Int) (μ : zM) (hx2 : zr x2), zG K Z (zΩ Z) (zF K Z (zΩ Z) zeM) 0 0 18 [(0, .ref (Z.2.2.1 + 292)), (1, .int (zi a1)), (2, .int (zi x2))] [] μ (k18 x2 μ)) (x2 : Int) (μ : zM) (hx2 : zr x2) : zG K Z (zΩ Z) (zF K Z (zΩ Z) zeM) 0 0 18 [(0, .ref (Z.2.2.1 + 292)), (1, .int (zi a1)), (2, .int (zi x2))] [] μ (f7_writesNumber_18 a1 k18 x2 μ) := by
  obtain ⟨hK, hex⟩ := id hcx
  unfold f7_writesNumber_18
  refine g_iload_n hK 2 rfl rfl d7_writesNumber_18 ?_
  refine g_if_le hK hx2 (tgt := 58) (by decide) d7_writesNumber_19 (fun _ => ?_) (fun _ => ?_)
  · exact g_vret hK rfl rfl d7_writesNumber_58
  · refine g_aload_n hK 0 rfl rfl d7_writesNumber_22 ?_
    refine g_getR hK zfin_7 (fa_7_28 kc_292) q_1225 (r := 333) (by decide +kernel) d7_writesNumber_23 ?_
    refine g_aload_n hK 0 rfl rfl d7_writesNumber_26 ?_
    refine g_getI hK zfin_7 (fa_7_29 kc_292) q_1226 d7_writesNumber_27 (fun hf1 => ?_)
    refine g_bipush hK d7_writesNumber_30 zkb48 ?_
    refine g_iload_n hK 1 rfl rfl d7_writesNumber_32 ?_
    refine g_iload_n hK 2 rfl rfl d7_writesNumber_33 ?_
    refine g_gd (fun hg2 => ?_)
    refine g_idiv hK d7_writesNumber_34 hx2 hg2 (fun v3 hv3 => ?_)
    refine g_bipush hK d7_writesNumber_35 zkb10 ?_
    refine g_irem hK d7_writesNumber_37 zc10 (by decide) (fun v4 hv4 => ?_)
    refine g_iadd hK d7_writesNumber_38 (fun v5 hv5 => ?_)
    refine g_iast hK hv5 kc_333 d7_writesNumber_39 (fun _ => ?_)
    refine g_ltM (fun m1 => ?_)
    refine g_aload_n hK 0 rfl rfl d7_writesNumber_40 ?_
    refine g_dup hK d7_writesNumber_41 rfl ?_
    refine g_getI hK zfin_7 (fa_7_29 kc_292) q_1226 d7_writesNumber_42 (fun hf2 => ?_)
    refine g_iconst hK d7_writesNumber_45 zki1 ?_
    refine g_iadd hK d7_writesNumber_46 (fun v6 hv6 => ?_)
    refine g_putI hK zfin_7 (fa_7_29 kc_292) q_1226 hv6 rfl (tyX7_ok 29 (by decide)) tyX7 tyX7_ok nmX7 d7_writesNumber_47 ?_
    refine g_ltM (fun m2 => ?_)
    refine g_iload_n hK 2 rfl rfl d7_writesNumber_50 ?_
    refine g_bipush hK d7_writesNumber_51 zkb10 ?_
    refine g_idiv hK d7_writesNumber_53 zc10 (by decide) (fun v7 hv7 => ?_)
    refine g_istore_n hK (lv2 := [(0, .ref (Z.2.2.1 + 292)), (1, .int (zi a1)), (2, .int (zi v7))]) [1, 2, 0] rfl rfl (by decide) d7_writesNumber_54 ?_
    refine g_goto hK (tgt := 18) (by decide) d7_writesNumber_55 ?_
    exact hk18 v7 m2 hv7
set_option maxRecDepth 20000 in
theorem l7_writesNumber_18 {K : zK} {Z : zZ} (hcx : zOk K Z b7_writesNumber RX7 3 (none) 0 8 0 0 ∧ ∀ x ∈ K.2.2.2.2.2.2.2.2.2.exceptionTable.toList, False) (a1 : Int) (ha1 : zr a1) : ∀ (i9 : Nat) (x2 : Int) (μ : zM) (hx2 : zr x2), zG K Z (zΩ Z) (zF K Z (zΩ Z) zeM) 0 0 18 [(0, .ref (Z.2.2.1 + 292)), (1, .int (zi a1)), (2, .int (zi x2))] [] μ (zfx (f7_writesNumber_18 a1) (fun _ _ => none) i9 x2 μ) := by
  intro i9
  induction i9 with
  | zero => intro x2 μ hx2; exact g_none
  | succ i9 ih => intro x2 μ hx2; exact p7_writesNumber_18 hcx a1 ha1  (zfx (f7_writesNumber_18 a1) (fun _ _ => none) i9) ih x2 μ hx2
set_option maxRecDepth 20000 in
theorem p7_writesNumber_2 {K : zK} {Z : zZ} (hcx : zOk K Z b7_writesNumber RX7 3 (none) 0 8 0 0 ∧ ∀ x ∈ K.2.2.2.2.2.2.2.2.2.exceptionTable.toList, False) (a1 : Int) (ha1 : zr a1) (k2 : Int → zM → Option zM) (hk2 : ∀ (x2 : Int) (μ : zM) (hx2 : zr x2), zG K Z (zΩ Z) (zF K Z (zΩ Z) zeM) 0 0 2 [(0, .ref (Z.2.2.1 + 292)), (1, .int (zi a1)), (2, .int (zi x2))] [] μ (k2 x2 μ)) (x2 : Int) (μ : zM) (hx2 : zr x2) : zG K Z (zΩ Z) (zF K Z (zΩ Z) zeM) 0 0 2 [(0, .ref (Z.2.2.1 + 292)), (1, .int (zi a1)), (2, .int (zi x2))] [] μ (f7_writesNumber_2 a1 k2 x2 μ) := by
  obtain ⟨hK, hex⟩ := id hcx
  unfold f7_writesNumber_2
  refine g_iload_n hK 1 rfl rfl d7_writesNumber_2 ?_
  refine g_iload_n hK 2 rfl rfl d7_writesNumber_3 ?_
  refine g_gd (fun hg1 => ?_)
  refine g_idiv hK d7_writesNumber_4 hx2 hg1 (fun v1 hv1 => ?_)
  refine g_bipush hK d7_writesNumber_5 zkb9 ?_
  refine g_icmp_le hK hv1 zc9 (tgt := 18) (by decide) d7_writesNumber_7 (fun _ => ?_) (fun _ => ?_)
  · exact l7_writesNumber_18 hcx a1 ha1  zFu x2 μ hx2
  · refine g_iload_n hK 2 rfl rfl d7_writesNumber_10 ?_
    refine g_bipush hK d7_writesNumber_11 zkb10 ?_
    refine g_imul hK d7_writesNumber_13 (fun v2 hv2 => ?_)
    refine g_istore_n hK (lv2 := [(0, .ref (Z.2.2.1 + 292)), (1, .int (zi a1)), (2, .int (zi v2))]) [1, 2, 0] rfl rfl (by decide) d7_writesNumber_14 ?_
    refine g_goto hK (tgt := 2) (by decide) d7_writesNumber_15 ?_
    exact hk2 v2 μ hv2
set_option maxRecDepth 20000 in
theorem l7_writesNumber_2 {K : zK} {Z : zZ} (hcx : zOk K Z b7_writesNumber RX7 3 (none) 0 8 0 0 ∧ ∀ x ∈ K.2.2.2.2.2.2.2.2.2.exceptionTable.toList, False) (a1 : Int) (ha1 : zr a1) : ∀ (i9 : Nat) (x2 : Int) (μ : zM) (hx2 : zr x2), zG K Z (zΩ Z) (zF K Z (zΩ Z) zeM) 0 0 2 [(0, .ref (Z.2.2.1 + 292)), (1, .int (zi a1)), (2, .int (zi x2))] [] μ (zfx (f7_writesNumber_2 a1) (fun _ _ => none) i9 x2 μ) := by
  intro i9
  induction i9 with
  | zero => intro x2 μ hx2; exact g_none
  | succ i9 ih => intro x2 μ hx2; exact p7_writesNumber_2 hcx a1 ha1  (zfx (f7_writesNumber_2 a1) (fun _ _ => none) i9) ih x2 μ hx2
set_option maxRecDepth 20000 in
theorem c7_writesNumber (l : Launch) (hst : l.stackTraces = false) (Z : zZ) (a1 : Int) (μ : zM) (ha1 : zr a1) : ∀ x, f7_writesNumber a1 μ = some x → zCt l Z (zΩ Z) y7_writesNumber (zws (.code y7_writesNumber b7_writesNumber 3 (none))) rm7_writesNumber [.ref (Z.2.2.1 + 292), .int (zi a1)] μ (zeM x) := by
  intro x h
  refine zCt.of (enc := zeM) h (by decide) hst (Nat.le_of_ble_eq_true rfl) (fun K hK0 hex hl _ => ?_)
  subst hl
  have hcx : zOk K Z b7_writesNumber RX7 3 (none) 0 8 0 0 ∧ ∀ x ∈ K.2.2.2.2.2.2.2.2.2.exceptionTable.toList, False := ⟨hK0, hex⟩
  have hK := hcx.1
  show zG K Z (zΩ Z) (zF K Z (zΩ Z) zeM) 0 0 0 [(0, .ref (Z.2.2.1 + 292)), (1, .int (zi a1))] [] μ (f7_writesNumber a1 μ)
  unfold f7_writesNumber
  refine g_iconst hK d7_writesNumber_0 zki1 ?_
  refine g_istore_n hK (lv2 := [(0, .ref (Z.2.2.1 + 292)), (1, .int (zi a1)), (2, .int (zi 1))]) [1, 2, 0] rfl rfl (by decide) d7_writesNumber_1 ?_
  exact l7_writesNumber_2 hcx a1 ha1  zFu 1 μ zc1
set_option maxRecDepth 20000 in
theorem p7_turned_23 {K : zK} {Z : zZ} (hcx : zOk K Z b7_turned RX7 2 (some .int) 1 30 0 0 ∧ ∀ x ∈ K.2.2.2.2.2.2.2.2.2.exceptionTable.toList, False) (a1 : Int) (a2 : Int) (μ : zM) (ha1 : zr a1) (ha2 : zr a2) : zG K Z (zΩ Z) (zF K Z (zΩ Z) (zeP mkI μ)) 0 0 23 [(0, .int (zi a1)), (1, .int (zi a2))] [] μ (f7_turned_23 a1 a2 ) := by
  obtain ⟨hK, hex⟩ := id hcx
  unfold f7_turned_23
  refine g_iload_n hK 1 rfl rfl d7_turned_23 ?_
  refine g_iconst hK d7_turned_24 zki2 ?_
  refine g_icmp_ne hK ha2 zc2 (tgt := 46) (by decide) d7_turned_25 (fun _ => ?_) (fun _ => ?_)
  · refine g_iload_n hK 0 rfl rfl d7_turned_46 ?_
    exact g_iret hK ha1 rfl rfl d7_turned_47
  · refine g_iload_n hK 0 rfl rfl d7_turned_28 ?_
    refine g_bipush hK d7_turned_29 zkb65 ?_
    refine g_bipush hK d7_turned_31 zkb90 ?_
    refine g_callSco hK (mk := mkZ) (rm := rm7_within) (cb := 0) (sb := 0) (As := [.int (zi a1), .int (zi 65), .int (zi 90)]) (n := 3) (c7_within K.2.1 hK.2.2.2.2.2.2.2.2.1 Z a1 65 90 μ ha1 zc65 zc90) q_1344 q_1345 q_7 q_1346 rfl (by decide +kernel) (by decide) (Nat.le_of_ble_eq_true rfl) (Nat.le_of_ble_eq_true rfl) (Nat.le_of_ble_eq_true rfl) rfl d7_turned_33 (fun r2 hr2 hpr2 => ?_)
    refine g_if_eq hK (zb_r r2) (tgt := 46) (by decide) d7_turned_36 (fun _ => ?_) (fun _ => ?_)
    · refine g_iload_n hK 0 rfl rfl d7_turned_46 ?_
      exact g_iret hK ha1 rfl rfl d7_turned_47
    · refine g_iload_n hK 0 rfl rfl d7_turned_39 ?_
      refine g_bipush hK d7_turned_40 zkb32 ?_
      refine g_iadd hK d7_turned_42 (fun v2 hv2 => ?_)
      refine g_goto hK (tgt := 47) (by decide) d7_turned_43 ?_
      exact g_iret hK hv2 rfl rfl d7_turned_47
set_option maxRecDepth 20000 in
theorem c7_turned (l : Launch) (hst : l.stackTraces = false) (Z : zZ) (a1 : Int) (a2 : Int) (μ : zM) (ha1 : zr a1) (ha2 : zr a2) : ∀ x, f7_turned a1 a2 = some x → zCt l Z (zΩ Z) y7_turned (zws (.code y7_turned b7_turned 2 (some .int))) rm7_turned [.int (zi a1), .int (zi a2)] μ (zeP mkI μ x) := by
  intro x h
  refine zCt.of (enc := (zeP mkI μ)) h (by decide) hst (Nat.le_of_ble_eq_true rfl) (fun K hK0 hex hl _ => ?_)
  subst hl
  have hcx : zOk K Z b7_turned RX7 2 (some .int) 1 30 0 0 ∧ ∀ x ∈ K.2.2.2.2.2.2.2.2.2.exceptionTable.toList, False := ⟨hK0, hex⟩
  have hK := hcx.1
  show zG K Z (zΩ Z) (zF K Z (zΩ Z) (zeP mkI μ)) 0 0 0 [(0, .int (zi a1)), (1, .int (zi a2))] [] μ (f7_turned a1 a2)
  unfold f7_turned
  refine g_iload_n hK 1 rfl rfl d7_turned_0 ?_
  refine g_iconst hK d7_turned_1 zki1 ?_
  refine g_icmp_ne hK ha2 zc1 (tgt := 23) (by decide) d7_turned_2 (fun _ => ?_) (fun _ => ?_)
  · exact p7_turned_23 hcx a1 a2 μ ha1 ha2    
  · refine g_iload_n hK 0 rfl rfl d7_turned_5 ?_
    refine g_bipush hK d7_turned_6 zkb97 ?_
    refine g_bipush hK d7_turned_8 zkb122 ?_
    refine g_callSco hK (mk := mkZ) (rm := rm7_within) (cb := 0) (sb := 0) (As := [.int (zi a1), .int (zi 97), .int (zi 122)]) (n := 3) (c7_within K.2.1 hK.2.2.2.2.2.2.2.2.1 Z a1 97 122 μ ha1 zc97 zc122) q_1344 q_1345 q_7 q_1346 rfl (by decide +kernel) (by decide) (Nat.le_of_ble_eq_true rfl) (Nat.le_of_ble_eq_true rfl) (Nat.le_of_ble_eq_true rfl) rfl d7_turned_10 (fun r1 hr1 hpr1 => ?_)
    refine g_if_eq hK (zb_r r1) (tgt := 23) (by decide) d7_turned_13 (fun _ => ?_) (fun _ => ?_)
    · exact p7_turned_23 hcx a1 a2 μ ha1 ha2    
    · refine g_iload_n hK 0 rfl rfl d7_turned_16 ?_
      refine g_bipush hK d7_turned_17 zkb32 ?_
      refine g_isub hK d7_turned_19 (fun v1 hv1 => ?_)
      refine g_goto hK (tgt := 47) (by decide) d7_turned_20 ?_
      exact g_iret hK hv1 rfl rfl d7_turned_47
set_option maxRecDepth 20000 in
theorem p7_changes_41 {K : zK} {Z : zZ} (hcx : zOk K Z b7_changes RX7 6 (none) 2 51 0 0 ∧ ∀ x ∈ K.2.2.2.2.2.2.2.2.2.exceptionTable.toList, False) (a1 : Int) (a2 : Int) (ha1 : zr a1) (ha2 : zr a2) (s0 : Int) (s1 : Int) (μ : zM) (hs0 : zr s0) (hs1 : zr s1) : zG K Z (zΩ Z) (zF K Z (zΩ Z) zeM) 0 0 41 [] [.int (zi s0), .int (zi s1), .ref (Z.2.2.1 + 292)] μ (f7_changes_41 a1 a2 s0 s1 μ) := by
  obtain ⟨hK, hex⟩ := id hcx
  unfold f7_changes_41
  refine g_iadd hK d7_changes_41 (fun v12 hv12 => ?_)
  refine g_putI hK zfin_7 (fa_7_29 kc_292) q_1226 hv12 rfl (tyX7_ok 29 (by decide)) tyX7 tyX7_ok nmX7 d7_changes_42 ?_
  refine g_ltM (fun m6 => ?_)
  refine g_goto hK (tgt := 159) (by decide) d7_changes_45 ?_
  exact g_vret hK rfl rfl d7_changes_159
set_option maxRecDepth 20000 in
theorem p7_changes_56 {K : zK} {Z : zZ} (hcx : zOk K Z b7_changes RX7 6 (none) 2 51 0 0 ∧ ∀ x ∈ K.2.2.2.2.2.2.2.2.2.exceptionTable.toList, False) (a1 : Int) (a2 : Int) (ha1 : zr a1) (ha2 : zr a2) (k56 : Int → Int → zM → Option zM) (hk56 : ∀ (x3 : Int) (x4 : Int) (μ : zM) (hx3 : zr x3) (hx4 : zr x4), zG K Z (zΩ Z) (zF K Z (zΩ Z) zeM) 0 0 56 [(0, .ref (Z.2.2.1 + 292)), (2, .int (zi a2)), (3, .int (zi x3)), (4, .int (zi x4))] [] μ (k56 x3 x4 μ)) (x3 : Int) (x4 : Int) (μ : zM) (hx3 : zr x3) (hx4 : zr x4) : zG K Z (zΩ Z) (zF K Z (zΩ Z) zeM) 0 0 56 [(0, .ref (Z.2.2.1 + 292)), (2, .int (zi a2)), (3, .int (zi x3)), (4, .int (zi x4))] [] μ (f7_changes_56 a1 a2 k56 x3 x4 μ) := by
  obtain ⟨hK, hex⟩ := id hcx
  unfold f7_changes_56
  refine g_iload hK 3 rfl d7_changes_56 ?_
  refine g_iload_n hK 2 rfl rfl d7_changes_58 ?_
  refine g_iconst hK d7_changes_59 zki2 ?_
  refine g_idiv hK d7_changes_60 zc2 (by decide) (fun v3 hv3 => ?_)
  refine g_icmp_ge hK hx4 hv3 (tgt := 120) (by decide) d7_changes_61 (fun _ => ?_) (fun _ => ?_)
  · refine g_goto hK (tgt := 159) (by decide) d7_changes_120 ?_
    exact g_vret hK rfl rfl d7_changes_159
  · refine g_aload_n hK 0 rfl rfl d7_changes_64 ?_
    refine g_getR hK zfin_7 (fa_7_28 kc_292) q_1225 (r := 333) (by decide +kernel) d7_changes_65 ?_
    refine g_iload_n hK 1 rfl rfl d7_changes_68 ?_
    refine g_iload hK 3 rfl d7_changes_69 ?_
    refine g_iadd hK d7_changes_71 (fun v4 hv4 => ?_)
    refine g_iald hK kc_333 d7_changes_72 (fun _ hl2 => ?_)
    refine g_ltI hl2 (fun v5 hv5 => ?_)
    refine g_istore hK (lv2 := [(0, .ref (Z.2.2.1 + 292)), (2, .int (zi a2)), (3, .int (zi x3)), (4, .int (zi x4)), (5, .int (zi v5))]) [1, 2, 3, 4, 0] rfl (by decide) d7_changes_73 ?_
    refine g_aload_n hK 0 rfl rfl d7_changes_75 ?_
    refine g_getR hK zfin_7 (fa_7_28 kc_292) q_1225 (r := 333) (by decide +kernel) d7_changes_76 ?_
    refine g_iload_n hK 1 rfl rfl d7_changes_79 ?_
    refine g_iload hK 3 rfl d7_changes_80 ?_
    refine g_iadd hK d7_changes_82 (fun v6 hv6 => ?_)
    refine g_aload_n hK 0 rfl rfl d7_changes_83 ?_
    refine g_getR hK zfin_7 (fa_7_28 kc_292) q_1225 (r := 333) (by decide +kernel) d7_changes_84 ?_
    refine g_aload_n hK 0 rfl rfl d7_changes_87 ?_
    refine g_getI hK zfin_7 (fa_7_29 kc_292) q_1226 d7_changes_88 (fun hf3 => ?_)
    refine g_iconst hK d7_changes_91 zki1 ?_
    refine g_isub hK d7_changes_92 (fun v7 hv7 => ?_)
    refine g_iload hK 3 rfl d7_changes_93 ?_
    refine g_isub hK d7_changes_95 (fun v8 hv8 => ?_)
    refine g_iald hK kc_333 d7_changes_96 (fun _ hl3 => ?_)
    refine g_iast hK hl3 kc_333 d7_changes_97 (fun _ => ?_)
    refine g_ltM (fun m4 => ?_)
    refine g_aload_n hK 0 rfl rfl d7_changes_98 ?_
    refine g_getR hK zfin_7 (fa_7_28 kc_292) q_1225 (r := 333) (by decide +kernel) d7_changes_99 ?_
    refine g_aload_n hK 0 rfl rfl d7_changes_102 ?_
    refine g_getI hK zfin_7 (fa_7_29 kc_292) q_1226 d7_changes_103 (fun hf4 => ?_)
    refine g_iconst hK d7_changes_106 zki1 ?_
    refine g_isub hK d7_changes_107 (fun v9 hv9 => ?_)
    refine g_iload hK 3 rfl d7_changes_108 ?_
    refine g_isub hK d7_changes_110 (fun v10 hv10 => ?_)
    refine g_iload hK 4 rfl d7_changes_111 ?_
    refine g_iast hK hv5 kc_333 d7_changes_113 (fun _ => ?_)
    refine g_ltM (fun m5 => ?_)
    refine g_iinc hK (lv2 := fun v11 => [(0, .ref (Z.2.2.1 + 292)), (2, .int (zi a2)), (3, .int (zi x3)), (4, .int (zi v11)), (5, .int (zi v5))]) 3 rfl [1, 2, 3, 0, 4] (fun _ => rfl) (by decide) d7_changes_114 (fun v11 hv11 => ?_)
    refine g_goto hK (tgt := 56) (by decide) d7_changes_117 ?_
    refine g_lv (lv2 := [(0, .ref (Z.2.2.1 + 292)), (2, .int (zi a2)), (3, .int (zi x3)), (4, .int (zi v11))]) [0, 1, 2, 3] rfl ?_
    exact hk56 x3 v11 m5 hx3 hv11
set_option maxRecDepth 20000 in
theorem l7_changes_56 {K : zK} {Z : zZ} (hcx : zOk K Z b7_changes RX7 6 (none) 2 51 0 0 ∧ ∀ x ∈ K.2.2.2.2.2.2.2.2.2.exceptionTable.toList, False) (a1 : Int) (a2 : Int) (ha1 : zr a1) (ha2 : zr a2) : ∀ (i9 : Nat) (x3 : Int) (x4 : Int) (μ : zM) (hx3 : zr x3) (hx4 : zr x4), zG K Z (zΩ Z) (zF K Z (zΩ Z) zeM) 0 0 56 [(0, .ref (Z.2.2.1 + 292)), (2, .int (zi a2)), (3, .int (zi x3)), (4, .int (zi x4))] [] μ (zfx (f7_changes_56 a1 a2) (fun _ _ _ => none) i9 x3 x4 μ) := by
  intro i9
  induction i9 with
  | zero => intro x3 x4 μ hx3 hx4; exact g_none
  | succ i9 ih => intro x3 x4 μ hx3 hx4; exact p7_changes_56 hcx a1 a2 ha1 ha2  (zfx (f7_changes_56 a1 a2) (fun _ _ _ => none) i9) ih x3 x4 μ hx3 hx4
set_option maxRecDepth 20000 in
theorem p7_changes_126 {K : zK} {Z : zZ} (hcx : zOk K Z b7_changes RX7 6 (none) 2 51 0 0 ∧ ∀ x ∈ K.2.2.2.2.2.2.2.2.2.exceptionTable.toList, False) (a1 : Int) (a2 : Int) (ha1 : zr a1) (ha2 : zr a2) (k126 : Int → zM → Option zM) (hk126 : ∀ (x4 : Int) (μ : zM) (hx4 : zr x4), zG K Z (zΩ Z) (zF K Z (zΩ Z) zeM) 0 0 126 [(0, .ref (Z.2.2.1 + 292)), (1, .int (zi a1)), (4, .int (zi x4))] [] μ (k126 x4 μ)) (x4 : Int) (μ : zM) (hx4 : zr x4) : zG K Z (zΩ Z) (zF K Z (zΩ Z) zeM) 0 0 126 [(0, .ref (Z.2.2.1 + 292)), (1, .int (zi a1)), (4, .int (zi x4))] [] μ (f7_changes_126 a1 a2 k126 x4 μ) := by
  obtain ⟨hK, hex⟩ := id hcx
  unfold f7_changes_126
  refine g_iload hK 2 rfl d7_changes_126 ?_
  refine g_aload_n hK 0 rfl rfl d7_changes_128 ?_
  refine g_getI hK zfin_7 (fa_7_29 kc_292) q_1226 d7_changes_129 (fun hf2 => ?_)
  refine g_icmp_ge hK hx4 hf2 (tgt := 159) (by decide) d7_changes_132 (fun _ => ?_) (fun _ => ?_)
  · exact g_vret hK rfl rfl d7_changes_159
  · refine g_aload_n hK 0 rfl rfl d7_changes_135 ?_
    refine g_getR hK zfin_7 (fa_7_28 kc_292) q_1225 (r := 333) (by decide +kernel) d7_changes_136 ?_
    refine g_iload hK 2 rfl d7_changes_139 ?_
    refine g_aload_n hK 0 rfl rfl d7_changes_141 ?_
    refine g_getR hK zfin_7 (fa_7_28 kc_292) q_1225 (r := 333) (by decide +kernel) d7_changes_142 ?_
    refine g_iload hK 2 rfl d7_changes_145 ?_
    refine g_iald hK kc_333 d7_changes_147 (fun _ hl1 => ?_)
    refine g_iload_n hK 1 rfl rfl d7_changes_148 ?_
    refine g_callSco hK (mk := mkI) (rm := rm7_turned) (cb := 0) (sb := 0) (As := [.int (zi (zI μ 333 (zx x4))), .int (zi a1)]) (n := 2) (c7_turned K.2.1 hK.2.2.2.2.2.2.2.2.1 Z (zI μ 333 (zx x4)) a1 μ hl1 ha1) q_1570 q_1571 q_7 q_1572 rfl (by decide +kernel) (by decide) (Nat.le_of_ble_eq_true rfl) (Nat.le_of_ble_eq_true rfl) (Nat.le_of_ble_eq_true rfl) rfl d7_changes_149 (fun r1 hr1 hpr1 => ?_)
    refine g_iast hK hpr1 kc_333 d7_changes_152 (fun _ => ?_)
    refine g_ltM (fun m3 => ?_)
    refine g_iinc hK (lv2 := fun v2 => [(0, .ref (Z.2.2.1 + 292)), (1, .int (zi a1)), (4, .int (zi v2))]) 2 rfl [1, 2, 0] (fun _ => rfl) (by decide) d7_changes_153 (fun v2 hv2 => ?_)
    refine g_goto hK (tgt := 126) (by decide) d7_changes_156 ?_
    exact hk126 v2 m3 hv2
set_option maxRecDepth 20000 in
theorem l7_changes_126 {K : zK} {Z : zZ} (hcx : zOk K Z b7_changes RX7 6 (none) 2 51 0 0 ∧ ∀ x ∈ K.2.2.2.2.2.2.2.2.2.exceptionTable.toList, False) (a1 : Int) (a2 : Int) (ha1 : zr a1) (ha2 : zr a2) : ∀ (i9 : Nat) (x4 : Int) (μ : zM) (hx4 : zr x4), zG K Z (zΩ Z) (zF K Z (zΩ Z) zeM) 0 0 126 [(0, .ref (Z.2.2.1 + 292)), (1, .int (zi a1)), (4, .int (zi x4))] [] μ (zfx (f7_changes_126 a1 a2) (fun _ _ => none) i9 x4 μ) := by
  intro i9
  induction i9 with
  | zero => intro x4 μ hx4; exact g_none
  | succ i9 ih => intro x4 μ hx4; exact p7_changes_126 hcx a1 a2 ha1 ha2  (zfx (f7_changes_126 a1 a2) (fun _ _ => none) i9) ih x4 μ hx4
set_option maxRecDepth 20000 in
theorem c7_changes (l : Launch) (hst : l.stackTraces = false) (Z : zZ) (a1 : Int) (a2 : Int) (μ : zM) (ha1 : zr a1) (ha2 : zr a2) : ∀ x, f7_changes a1 a2 μ = some x → zCt l Z (zΩ Z) y7_changes (zws (.code y7_changes b7_changes 6 (none))) rm7_changes [.ref (Z.2.2.1 + 292), .int (zi a1), .int (zi a2)] μ (zeM x) := by
  intro x h
  refine zCt.of (enc := zeM) h (by decide) hst (Nat.le_of_ble_eq_true rfl) (fun K hK0 hex hl _ => ?_)
  subst hl
  have hcx : zOk K Z b7_changes RX7 6 (none) 2 51 0 0 ∧ ∀ x ∈ K.2.2.2.2.2.2.2.2.2.exceptionTable.toList, False := ⟨hK0, hex⟩
  have hK := hcx.1
  show zG K Z (zΩ Z) (zF K Z (zΩ Z) zeM) 0 0 0 [(0, .ref (Z.2.2.1 + 292)), (1, .int (zi a1)), (2, .int (zi a2))] [] μ (f7_changes a1 a2 μ)
  unfold f7_changes
  refine g_aload_n hK 0 rfl rfl d7_changes_0 ?_
  refine g_getI hK zfin_7 (fa_7_29 kc_292) q_1226 d7_changes_1 (fun hf1 => ?_)
  refine g_iload_n hK 2 rfl rfl d7_changes_4 ?_
  refine g_isub hK d7_changes_5 (fun v1 hv1 => ?_)
  refine g_istore_n hK (lv2 := [(0, .ref (Z.2.2.1 + 292)), (1, .int (zi a1)), (2, .int (zi a2)), (3, .int (zi v1))]) [1, 2, 3, 0] rfl rfl (by decide) d7_changes_6 ?_
  refine g_iload_n hK 1 rfl rfl d7_changes_7 ?_
  refine g_iconst hK d7_changes_8 zki5 ?_
  refine g_icmp_ne hK ha1 zc5 (tgt := 25) (by decide) d7_changes_9 (fun _ => ?_) (fun _ => ?_)
  · refine g_iload_n hK 1 rfl rfl d7_changes_25 ?_
    refine g_iconst hK d7_changes_26 zki4 ?_
    refine g_icmp_ne hK ha1 zc4 (tgt := 48) (by decide) d7_changes_27 (fun _ => ?_) (fun _ => ?_)
    · refine g_iload_n hK 1 rfl rfl d7_changes_48 ?_
      refine g_iconst hK d7_changes_49 zki3 ?_
      refine g_icmp_ne hK ha1 zc3 (tgt := 123) (by decide) d7_changes_50 (fun _ => ?_) (fun _ => ?_)
      · refine g_iload_n hK 2 rfl rfl d7_changes_123 ?_
        refine g_istore hK (lv2 := [(0, .ref (Z.2.2.1 + 292)), (1, .int (zi a1)), (2, .int (zi a2)), (3, .int (zi v1)), (4, .int (zi a2))]) [1, 2, 3, 4, 0] rfl (by decide) d7_changes_124 ?_
        refine g_lv (lv2 := [(0, .ref (Z.2.2.1 + 292)), (1, .int (zi a1)), (4, .int (zi a2))]) [0, 1, 4] rfl ?_
        exact l7_changes_126 hcx a1 a2 ha1 ha2  zFu a2 μ ha2
      · refine g_iconst hK d7_changes_53 zki0 ?_
        refine g_istore hK (lv2 := [(0, .ref (Z.2.2.1 + 292)), (1, .int (zi a1)), (2, .int (zi a2)), (3, .int (zi v1)), (4, .int (zi 0))]) [1, 2, 3, 4, 0] rfl (by decide) d7_changes_54 ?_
        refine g_lv (lv2 := [(0, .ref (Z.2.2.1 + 292)), (2, .int (zi a2)), (3, .int (zi v1)), (4, .int (zi 0))]) [0, 2, 3, 4] rfl ?_
        exact l7_changes_56 hcx a1 a2 ha1 ha2  zFu v1 0 μ hv1 zc0
    · refine g_aload_n hK 0 rfl rfl d7_changes_30 ?_
      refine g_iload_n hK 2 rfl rfl d7_changes_31 ?_
      refine g_iload_n hK 3 rfl rfl d7_changes_32 ?_
      refine g_if_le hK hv1 (tgt := 40) (by decide) d7_changes_33 (fun _ => ?_) (fun _ => ?_)
      · refine g_iconst hK d7_changes_40 zki0 ?_
        refine g_lv (lv2 := []) [] rfl ?_
        exact p7_changes_41 hcx a1 a2 ha1 ha2  0 a2 μ zc0 ha2
      · refine g_iconst hK d7_changes_36 zki1 ?_
        refine g_goto hK (tgt := 41) (by decide) d7_changes_37 ?_
        refine g_lv (lv2 := []) [] rfl ?_
        exact p7_changes_41 hcx a1 a2 ha1 ha2  1 a2 μ zc1 ha2
  · refine g_aload_n hK 0 rfl rfl d7_changes_12 ?_
    refine g_iload_n hK 2 rfl rfl d7_changes_13 ?_
    refine g_putI hK zfin_7 (fa_7_29 kc_292) q_1226 ha2 rfl (tyX7_ok 29 (by decide)) tyX7 tyX7_ok nmX7 d7_changes_14 ?_
    refine g_ltM (fun m1 => ?_)
    refine g_aload_n hK 0 rfl rfl d7_changes_17 ?_
    refine g_iload_n hK 3 rfl rfl d7_changes_18 ?_
    refine g_callVcm hK (rm := rm7_writesNumber) (cb := 0) (sb := 0) (As := [.int (zi v1)]) (b := 292) (n := 1) (c7_writesNumber K.2.1 hK.2.2.2.2.2.2.2.2.1 Z v1 m1 hv1) rfl (ci := 7) rfl (by decide) kc_292 q_1566 q_1568 qs_7_writesNumber q_7 q_1569 rfl (by decide +kernel) (by decide) (Nat.le_of_ble_eq_true rfl) (Nat.le_of_ble_eq_true rfl) (Nat.le_of_ble_eq_true rfl) rfl d7_changes_19 (fun m2 hm2 => ?_)
    refine g_goto hK (tgt := 159) (by decide) d7_changes_22 ?_
    exact g_vret hK rfl rfl d7_changes_159
set_option maxRecDepth 20000 in
theorem p7_laysValue_143 {K : zK} {Z : zZ} {n : Nat} (hcx : zOk K Z b7_laysValue RX7 4 (none) (43 + (n + 1)) (1112 + (n + 1) * 26) 0 0 ∧ ∀ x ∈ K.2.2.2.2.2.2.2.2.2.exceptionTable.toList, False) (R_laysValue : (Int → zM → Option zM)) (hR_laysValue : ∀ (a1 : Int) (μ : zM) (ha1 : zr a1), ∀ x, R_laysValue a1 μ = some x → zCt K.2.1 Z (zΩ Z) y7_laysValue (zws (.code y7_laysValue b7_laysValue 4 (none))) (rmGB n) [.ref (Z.2.2.1 + 292), .int (zi a1)] μ (zeM x)) (R_writesValue : (Int → zM → Option zM)) (hR_writesValue : ∀ (a1 : Int) (μ : zM) (ha1 : zr a1), ∀ x, R_writesValue a1 μ = some x → zCt K.2.1 Z (zΩ Z) y7_writesValue (zws (.code y7_writesValue b7_writesValue 4 (none))) (rmGB n) [.ref (Z.2.2.1 + 292), .int (zi a1)] μ (zeM x)) (R_writesBody : (Int → Int → zM → Option zM)) (hR_writesBody : ∀ (a1 : Int) (a2 : Int) (μ : zM) (ha1 : zr a1) (ha2 : zr a2), ∀ x, R_writesBody a1 a2 μ = some x → zCt K.2.1 Z (zΩ Z) y7_writesBody (zws (.code y7_writesBody b7_writesBody 7 (none))) (rmGB n) [.ref (Z.2.2.1 + 292), .int (zi a1), .int (zi a2)] μ (zeM x)) (a1 : Int) (ha1 : zr a1) (k143 : Int → Int → zM → Option zM) (hk143 : ∀ (x2 : Int) (x3 : Int) (μ : zM) (hx2 : zr x2) (hx3 : zr x3), zG K Z (zΩ Z) (zF K Z (zΩ Z) zeM) 0 0 143 [(0, .ref (Z.2.2.1 + 292)), (1, .int (zi a1)), (2, .int (zi x2)), (3, .int (zi x3))] [] μ (k143 x2 x3 μ)) (x2 : Int) (x3 : Int) (μ : zM) (hx2 : zr x2) (hx3 : zr x3) : zG K Z (zΩ Z) (zF K Z (zΩ Z) zeM) 0 0 143 [(0, .ref (Z.2.2.1 + 292)), (1, .int (zi a1)), (2, .int (zi x2)), (3, .int (zi x3))] [] μ (f7_laysValue_143 R_laysValue R_writesValue R_writesBody a1 k143 x2 x3 μ) := by
  obtain ⟨hK, hex⟩ := id hcx
  unfold f7_laysValue_143
  refine g_iload_n hK 3 rfl rfl d7_laysValue_143 ?_
  refine g_aload_n hK 0 rfl rfl d7_laysValue_144 ?_
  refine g_getI hK zfin_7 (fa_7_29 kc_292) q_1226 d7_laysValue_145 (fun hf2 => ?_)
  refine g_icmp_ge hK hx3 hf2 (tgt := 177) (by decide) d7_laysValue_148 (fun _ => ?_) (fun _ => ?_)
  · refine g_aload_n hK 0 rfl rfl d7_laysValue_177 ?_
    refine g_iload_n hK 2 rfl rfl d7_laysValue_178 ?_
    refine g_putI hK zfin_7 (fa_7_29 kc_292) q_1226 hx2 rfl (tyX7_ok 29 (by decide)) tyX7 tyX7_ok nmX7 d7_laysValue_179 ?_
    refine g_ltM (fun m3 => ?_)
    exact g_vret hK rfl rfl d7_laysValue_182
  · refine g_aload_n hK 0 rfl rfl d7_laysValue_151 ?_
    refine g_getR hK zfin_7 (fa_7_30 kc_292) q_1227 (r := 334) (by decide +kernel) d7_laysValue_152 ?_
    refine g_sipush hK d7_laysValue_155 zks410 ?_
    refine g_iload_n hK 1 rfl rfl d7_laysValue_158 ?_
    refine g_imul hK d7_laysValue_159 (fun v3 hv3 => ?_)
    refine g_iload_n hK 3 rfl rfl d7_laysValue_160 ?_
    refine g_iadd hK d7_laysValue_161 (fun v4 hv4 => ?_)
    refine g_iload_n hK 2 rfl rfl d7_laysValue_162 ?_
    refine g_isub hK d7_laysValue_163 (fun v5 hv5 => ?_)
    refine g_aload_n hK 0 rfl rfl d7_laysValue_164 ?_
    refine g_getR hK zfin_7 (fa_7_28 kc_292) q_1225 (r := 333) (by decide +kernel) d7_laysValue_165 ?_
    refine g_iload_n hK 3 rfl rfl d7_laysValue_168 ?_
    refine g_iald hK kc_333 d7_laysValue_169 (fun _ hl6 => ?_)
    refine g_iast hK hl6 kc_334 d7_laysValue_170 (fun _ => ?_)
    refine g_ltM (fun m4 => ?_)
    refine g_iinc hK (lv2 := fun v6 => [(0, .ref (Z.2.2.1 + 292)), (1, .int (zi a1)), (2, .int (zi x2)), (3, .int (zi v6))]) 3 rfl [1, 2, 3, 0] (fun _ => rfl) (by decide) d7_laysValue_171 (fun v6 hv6 => ?_)
    refine g_goto hK (tgt := 143) (by decide) d7_laysValue_174 ?_
    exact hk143 x2 v6 m4 hx2 hv6
set_option maxRecDepth 20000 in
theorem l7_laysValue_143 {K : zK} {Z : zZ} {n : Nat} (hcx : zOk K Z b7_laysValue RX7 4 (none) (43 + (n + 1)) (1112 + (n + 1) * 26) 0 0 ∧ ∀ x ∈ K.2.2.2.2.2.2.2.2.2.exceptionTable.toList, False) (R_laysValue : (Int → zM → Option zM)) (hR_laysValue : ∀ (a1 : Int) (μ : zM) (ha1 : zr a1), ∀ x, R_laysValue a1 μ = some x → zCt K.2.1 Z (zΩ Z) y7_laysValue (zws (.code y7_laysValue b7_laysValue 4 (none))) (rmGB n) [.ref (Z.2.2.1 + 292), .int (zi a1)] μ (zeM x)) (R_writesValue : (Int → zM → Option zM)) (hR_writesValue : ∀ (a1 : Int) (μ : zM) (ha1 : zr a1), ∀ x, R_writesValue a1 μ = some x → zCt K.2.1 Z (zΩ Z) y7_writesValue (zws (.code y7_writesValue b7_writesValue 4 (none))) (rmGB n) [.ref (Z.2.2.1 + 292), .int (zi a1)] μ (zeM x)) (R_writesBody : (Int → Int → zM → Option zM)) (hR_writesBody : ∀ (a1 : Int) (a2 : Int) (μ : zM) (ha1 : zr a1) (ha2 : zr a2), ∀ x, R_writesBody a1 a2 μ = some x → zCt K.2.1 Z (zΩ Z) y7_writesBody (zws (.code y7_writesBody b7_writesBody 7 (none))) (rmGB n) [.ref (Z.2.2.1 + 292), .int (zi a1), .int (zi a2)] μ (zeM x)) (a1 : Int) (ha1 : zr a1) : ∀ (i9 : Nat) (x2 : Int) (x3 : Int) (μ : zM) (hx2 : zr x2) (hx3 : zr x3), zG K Z (zΩ Z) (zF K Z (zΩ Z) zeM) 0 0 143 [(0, .ref (Z.2.2.1 + 292)), (1, .int (zi a1)), (2, .int (zi x2)), (3, .int (zi x3))] [] μ (zfx (f7_laysValue_143 R_laysValue R_writesValue R_writesBody a1) (fun _ _ _ => none) i9 x2 x3 μ) := by
  intro i9
  induction i9 with
  | zero => intro x2 x3 μ hx2 hx3; exact g_none
  | succ i9 ih => intro x2 x3 μ hx2 hx3; exact p7_laysValue_143 hcx R_laysValue hR_laysValue R_writesValue hR_writesValue R_writesBody hR_writesBody a1 ha1  (zfx (f7_laysValue_143 R_laysValue R_writesValue R_writesBody a1) (fun _ _ _ => none) i9) ih x2 x3 μ hx2 hx3
set_option maxRecDepth 20000 in
theorem p7_laysValue_32 {K : zK} {Z : zZ} {n : Nat} (hcx : zOk K Z b7_laysValue RX7 4 (none) (43 + (n + 1)) (1112 + (n + 1) * 26) 0 0 ∧ ∀ x ∈ K.2.2.2.2.2.2.2.2.2.exceptionTable.toList, False) (R_laysValue : (Int → zM → Option zM)) (hR_laysValue : ∀ (a1 : Int) (μ : zM) (ha1 : zr a1), ∀ x, R_laysValue a1 μ = some x → zCt K.2.1 Z (zΩ Z) y7_laysValue (zws (.code y7_laysValue b7_laysValue 4 (none))) (rmGB n) [.ref (Z.2.2.1 + 292), .int (zi a1)] μ (zeM x)) (R_writesValue : (Int → zM → Option zM)) (hR_writesValue : ∀ (a1 : Int) (μ : zM) (ha1 : zr a1), ∀ x, R_writesValue a1 μ = some x → zCt K.2.1 Z (zΩ Z) y7_writesValue (zws (.code y7_writesValue b7_writesValue 4 (none))) (rmGB n) [.ref (Z.2.2.1 + 292), .int (zi a1)] μ (zeM x)) (R_writesBody : (Int → Int → zM → Option zM)) (hR_writesBody : ∀ (a1 : Int) (a2 : Int) (μ : zM) (ha1 : zr a1) (ha2 : zr a2), ∀ x, R_writesBody a1 a2 μ = some x → zCt K.2.1 Z (zΩ Z) y7_writesBody (zws (.code y7_writesBody b7_writesBody 7 (none))) (rmGB n) [.ref (Z.2.2.1 + 292), .int (zi a1), .int (zi a2)] μ (zeM x)) (a1 : Int) (ha1 : zr a1) (k32 : Int → Int → zM → Option zM) (hk32 : ∀ (x2 : Int) (x3 : Int) (μ : zM) (hx2 : zr x2) (hx3 : zr x3), zG K Z (zΩ Z) (zF K Z (zΩ Z) zeM) 0 0 32 [(0, .ref (Z.2.2.1 + 292)), (1, .int (zi a1)), (2, .int (zi x2)), (3, .int (zi x3))] [] μ (k32 x2 x3 μ)) (x2 : Int) (x3 : Int) (μ : zM) (hx2 : zr x2) (hx3 : zr x3) : zG K Z (zΩ Z) (zF K Z (zΩ Z) zeM) 0 0 32 [(0, .ref (Z.2.2.1 + 292)), (1, .int (zi a1)), (2, .int (zi x2)), (3, .int (zi x3))] [] μ (f7_laysValue_32 R_laysValue R_writesValue R_writesBody a1 k32 x2 x3 μ) := by
  obtain ⟨hK, hex⟩ := id hcx
  unfold f7_laysValue_32
  refine g_iload_n hK 3 rfl rfl d7_laysValue_32 ?_
  refine g_aload_n hK 0 rfl rfl d7_laysValue_33 ?_
  refine g_getR hK zfin_7 (fa_7_1 kc_292) q_1198 (r := 293) (by decide +kernel) d7_laysValue_34 ?_
  refine g_aload_n hK 0 rfl rfl d7_laysValue_37 ?_
  refine g_getI hK zfin_7 (fa_7_22 kc_292) q_1219 d7_laysValue_38 (fun hf3 => ?_)
  refine g_iconst hK d7_laysValue_41 zki3 ?_
  refine g_iadd hK d7_laysValue_42 (fun v7 hv7 => ?_)
  refine g_iload_n hK 1 rfl rfl d7_laysValue_43 ?_
  refine g_iadd hK d7_laysValue_44 (fun v8 hv8 => ?_)
  refine g_iald hK kc_293 d7_laysValue_45 (fun _ hl7 => ?_)
  refine g_icmp_ge hK hx3 hl7 (tgt := 93) (by decide) d7_laysValue_46 (fun _ => ?_) (fun _ => ?_)
  · refine g_goto hK (tgt := 141) (by decide) d7_laysValue_93 ?_
    refine g_iload_n hK 2 rfl rfl d7_laysValue_141 ?_
    refine g_istore_n hK (lv2 := [(0, .ref (Z.2.2.1 + 292)), (1, .int (zi a1)), (2, .int (zi x2)), (3, .int (zi x2))]) [1, 2, 3, 0] rfl rfl (by decide) d7_laysValue_142 ?_
    exact l7_laysValue_143 hcx R_laysValue hR_laysValue R_writesValue hR_writesValue R_writesBody hR_writesBody a1 ha1  zFu x2 x2 μ hx2 hx2
  · refine g_aload_n hK 0 rfl rfl d7_laysValue_49 ?_
    refine g_getR hK zfin_7 (fa_7_28 kc_292) q_1225 (r := 333) (by decide +kernel) d7_laysValue_50 ?_
    refine g_aload_n hK 0 rfl rfl d7_laysValue_53 ?_
    refine g_getI hK zfin_7 (fa_7_29 kc_292) q_1226 d7_laysValue_54 (fun hf4 => ?_)
    refine g_aload_n hK 0 rfl rfl d7_laysValue_57 ?_
    refine g_getR hK zfin_7 (fa_7_1 kc_292) q_1198 (r := 293) (by decide +kernel) d7_laysValue_58 ?_
    refine g_aload_n hK 0 rfl rfl d7_laysValue_61 ?_
    refine g_getI hK zfin_7 (fa_7_22 kc_292) q_1219 d7_laysValue_62 (fun hf5 => ?_)
    refine g_bipush hK d7_laysValue_65 zkb13 ?_
    refine g_iadd hK d7_laysValue_67 (fun v9 hv9 => ?_)
    refine g_bipush hK d7_laysValue_68 zkb40 ?_
    refine g_iload_n hK 1 rfl rfl d7_laysValue_70 ?_
    refine g_imul hK d7_laysValue_71 (fun v10 hv10 => ?_)
    refine g_iadd hK d7_laysValue_72 (fun v11 hv11 => ?_)
    refine g_iload_n hK 3 rfl rfl d7_laysValue_73 ?_
    refine g_iadd hK d7_laysValue_74 (fun v12 hv12 => ?_)
    refine g_iald hK kc_293 d7_laysValue_75 (fun _ hl8 => ?_)
    refine g_iast hK hl8 kc_333 d7_laysValue_76 (fun _ => ?_)
    refine g_ltM (fun m5 => ?_)
    refine g_aload_n hK 0 rfl rfl d7_laysValue_77 ?_
    refine g_dup hK d7_laysValue_78 rfl ?_
    refine g_getI hK zfin_7 (fa_7_29 kc_292) q_1226 d7_laysValue_79 (fun hf6 => ?_)
    refine g_iconst hK d7_laysValue_82 zki1 ?_
    refine g_iadd hK d7_laysValue_83 (fun v13 hv13 => ?_)
    refine g_putI hK zfin_7 (fa_7_29 kc_292) q_1226 hv13 rfl (tyX7_ok 29 (by decide)) tyX7 tyX7_ok nmX7 d7_laysValue_84 ?_
    refine g_ltM (fun m6 => ?_)
    refine g_iinc hK (lv2 := fun v14 => [(0, .ref (Z.2.2.1 + 292)), (1, .int (zi a1)), (2, .int (zi x2)), (3, .int (zi v14))]) 3 rfl [1, 2, 3, 0] (fun _ => rfl) (by decide) d7_laysValue_87 (fun v14 hv14 => ?_)
    refine g_goto hK (tgt := 32) (by decide) d7_laysValue_90 ?_
    exact hk32 x2 v14 m6 hx2 hv14
set_option maxRecDepth 20000 in
theorem l7_laysValue_32 {K : zK} {Z : zZ} {n : Nat} (hcx : zOk K Z b7_laysValue RX7 4 (none) (43 + (n + 1)) (1112 + (n + 1) * 26) 0 0 ∧ ∀ x ∈ K.2.2.2.2.2.2.2.2.2.exceptionTable.toList, False) (R_laysValue : (Int → zM → Option zM)) (hR_laysValue : ∀ (a1 : Int) (μ : zM) (ha1 : zr a1), ∀ x, R_laysValue a1 μ = some x → zCt K.2.1 Z (zΩ Z) y7_laysValue (zws (.code y7_laysValue b7_laysValue 4 (none))) (rmGB n) [.ref (Z.2.2.1 + 292), .int (zi a1)] μ (zeM x)) (R_writesValue : (Int → zM → Option zM)) (hR_writesValue : ∀ (a1 : Int) (μ : zM) (ha1 : zr a1), ∀ x, R_writesValue a1 μ = some x → zCt K.2.1 Z (zΩ Z) y7_writesValue (zws (.code y7_writesValue b7_writesValue 4 (none))) (rmGB n) [.ref (Z.2.2.1 + 292), .int (zi a1)] μ (zeM x)) (R_writesBody : (Int → Int → zM → Option zM)) (hR_writesBody : ∀ (a1 : Int) (a2 : Int) (μ : zM) (ha1 : zr a1) (ha2 : zr a2), ∀ x, R_writesBody a1 a2 μ = some x → zCt K.2.1 Z (zΩ Z) y7_writesBody (zws (.code y7_writesBody b7_writesBody 7 (none))) (rmGB n) [.ref (Z.2.2.1 + 292), .int (zi a1), .int (zi a2)] μ (zeM x)) (a1 : Int) (ha1 : zr a1) : ∀ (i9 : Nat) (x2 : Int) (x3 : Int) (μ : zM) (hx2 : zr x2) (hx3 : zr x3), zG K Z (zΩ Z) (zF K Z (zΩ Z) zeM) 0 0 32 [(0, .ref (Z.2.2.1 + 292)), (1, .int (zi a1)), (2, .int (zi x2)), (3, .int (zi x3))] [] μ (zfx (f7_laysValue_32 R_laysValue R_writesValue R_writesBody a1) (fun _ _ _ => none) i9 x2 x3 μ) := by
  intro i9
  induction i9 with
  | zero => intro x2 x3 μ hx2 hx3; exact g_none
  | succ i9 ih => intro x2 x3 μ hx2 hx3; exact p7_laysValue_32 hcx R_laysValue hR_laysValue R_writesValue hR_writesValue R_writesBody hR_writesBody a1 ha1  (zfx (f7_laysValue_32 R_laysValue R_writesValue R_writesBody a1) (fun _ _ _ => none) i9) ih x2 x3 μ hx2 hx3
