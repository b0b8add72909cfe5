set_option maxRecDepth 20000 in
theorem c1_readDollar (l : Launch) (hst : l.stackTraces = false) (Z : zZ) (μ : zM) : ∀ x, f1_readDollar μ = some x → zCt l Z (zΩ Z) y1_readDollar (zws (.code y1_readDollar b1_readDollar 4 (none))) rm1_readDollar [.ref (Z.2.2.1 + 99)] μ (zeM x) := by
  intro x h
  refine zCt.of (enc := zeM) h (by decide) hst (Nat.le_of_ble_eq_true rfl) (fun K hK0 hex hl _ => ?_)
  subst hl
  have hcx : zOk K Z b1_readDollar RX1 4 (none) 3 74 0 0 ∧ ∀ x ∈ K.2.2.2.2.2.2.2.2.2.exceptionTable.toList, False := ⟨hK0, hex⟩
  have hK := hcx.1
  show zG K Z (zΩ Z) (zF K Z (zΩ Z) zeM) 0 0 0 [(0, .ref (Z.2.2.1 + 99))] [] μ (f1_readDollar μ)
  unfold f1_readDollar
  refine g_aload_n hK 0 rfl rfl d1_readDollar_0 ?_
  refine g_getI hK zfin_1 (fa_1_2 kc_99) q_153 d1_readDollar_1 (fun hf1 => ?_)
  refine g_ltI hf1 (fun v1 hv1 => ?_)
  refine g_istore_n hK (lv2 := [(0, .ref (Z.2.2.1 + 99)), (1, .int (zi v1))]) [1, 0] rfl rfl (by decide) d1_readDollar_4 ?_
  refine g_aload_n hK 0 rfl rfl d1_readDollar_5 ?_
  refine g_dup hK d1_readDollar_6 rfl ?_
  refine g_getI hK zfin_1 (fa_1_2 kc_99) q_153 d1_readDollar_7 (fun hf2 => ?_)
  refine g_iconst hK d1_readDollar_10 zki1 ?_
  refine g_iadd hK d1_readDollar_11 (fun v2 hv2 => ?_)
  refine g_putI hK zfin_1 (fa_1_2 kc_99) q_153 hv2 rfl (tyX1_ok 2 (by decide)) tyX1 tyX1_ok nmX1 d1_readDollar_12 ?_
  refine g_ltM (fun m1 => ?_)
  refine g_aload_n hK 0 rfl rfl d1_readDollar_15 ?_
  refine g_bipush hK d1_readDollar_16 zkb36 ?_
  refine g_callVco hK (mk := mkZ) (rm := rm1_isAt) (cb := 0) (sb := 0) (As := [.int (zi 36)]) (b := 99) (n := 1) (c1_isAt K.2.1 hK.2.2.2.2.2.2.2.2.1 Z 36 m1 zc36) rfl (ci := 1) rfl (by decide) kc_99 q_421 q_423 qs_1_isAt q_4 q_424 rfl (by decide +kernel) (by decide) (Nat.le_of_ble_eq_true rfl) (Nat.le_of_ble_eq_true rfl) (Nat.le_of_ble_eq_true rfl) rfl d1_readDollar_18 (fun r1 hr1 hpr1 => ?_)
  refine g_if_ne hK (zb_r r1) (tgt := 33) (by decide) d1_readDollar_21 (fun _ => ?_) (fun _ => ?_)
  · refine g_lv (lv2 := [(0, .ref (Z.2.2.1 + 99))]) [0] rfl ?_
    exact p1_readDollar_33 hcx   m1 
  · refine g_aload_n hK 0 rfl rfl d1_readDollar_24 ?_
    refine g_bipush hK d1_readDollar_25 zkb125 ?_
    refine g_callVco hK (mk := mkZ) (rm := rm1_isAt) (cb := 0) (sb := 0) (As := [.int (zi 125)]) (b := 99) (n := 1) (c1_isAt K.2.1 hK.2.2.2.2.2.2.2.2.1 Z 125 m1 zc125) rfl (ci := 1) rfl (by decide) kc_99 q_421 q_423 qs_1_isAt q_4 q_424 rfl (by decide +kernel) (by decide) (Nat.le_of_ble_eq_true rfl) (Nat.le_of_ble_eq_true rfl) (Nat.le_of_ble_eq_true rfl) rfl d1_readDollar_27 (fun r2 hr2 hpr2 => ?_)
    refine g_if_eq hK (zb_r r2) (tgt := 64) (by decide) d1_readDollar_30 (fun _ => ?_) (fun _ => ?_)
    · refine g_aload_n hK 0 rfl rfl d1_readDollar_64 ?_
      refine g_bipush hK d1_readDollar_65 zkb123 ?_
      refine g_callVco hK (mk := mkZ) (rm := rm1_isAt) (cb := 0) (sb := 0) (As := [.int (zi 123)]) (b := 99) (n := 1) (c1_isAt K.2.1 hK.2.2.2.2.2.2.2.2.1 Z 123 m1 zc123) rfl (ci := 1) rfl (by decide) kc_99 q_421 q_423 qs_1_isAt q_4 q_424 rfl (by decide +kernel) (by decide) (Nat.le_of_ble_eq_true rfl) (Nat.le_of_ble_eq_true rfl) (Nat.le_of_ble_eq_true rfl) rfl d1_readDollar_67 (fun r3 hr3 hpr3 => ?_)
      refine g_istore_n hK (lv2 := [(0, .ref (Z.2.2.1 + 99)), (1, .int (zi v1)), (2, .int (zi (zb r3)))]) [1, 2, 0] rfl rfl (by decide) d1_readDollar_70 ?_
      refine g_iload_n hK 2 rfl rfl d1_readDollar_71 ?_
      refine g_if_eq hK (zb_r r3) (tgt := 85) (by decide) d1_readDollar_72 (fun _ => ?_) (fun _ => ?_)
      · exact p1_readDollar_85 hcx  v1 (zb r3) m1 hv1 (zb_r r3)
      · refine g_aload_n hK 0 rfl rfl d1_readDollar_75 ?_
        refine g_dup hK d1_readDollar_76 rfl ?_
        refine g_getI hK zfin_1 (fa_1_2 kc_99) q_153 d1_readDollar_77 (fun hf3 => ?_)
        refine g_iconst hK d1_readDollar_80 zki1 ?_
        refine g_iadd hK d1_readDollar_81 (fun v3 hv3 => ?_)
        refine g_putI hK zfin_1 (fa_1_2 kc_99) q_153 hv3 rfl (tyX1_ok 2 (by decide)) tyX1 tyX1_ok nmX1 d1_readDollar_82 ?_
        refine g_ltM (fun m2 => ?_)
        exact p1_readDollar_85 hcx  v1 (zb r3) m2 hv1 (zb_r r3)
    · refine g_lv (lv2 := [(0, .ref (Z.2.2.1 + 99))]) [0] rfl ?_
      exact p1_readDollar_33 hcx   m1 
set_option maxRecDepth 20000 in
theorem p1_readLiteral_28 {K : zK} {Z : zZ} (hcx : zOk K Z b1_readLiteral RX1 2 (none) 1 30 0 0 ∧ ∀ x ∈ K.2.2.2.2.2.2.2.2.2.exceptionTable.toList, False) (μ : zM) : zG K Z (zΩ Z) (zF K Z (zΩ Z) zeM) 0 0 28 [(0, .ref (Z.2.2.1 + 99))] [] μ (f1_readLiteral_28 μ) := by
  obtain ⟨hK, hex⟩ := id hcx
  unfold f1_readLiteral_28
  refine g_aload_n hK 0 rfl rfl d1_readLiteral_28 ?_
  refine g_iconst hK d1_readLiteral_29 zki1 ?_
  refine g_aload_n hK 0 rfl rfl d1_readLiteral_30 ?_
  refine g_getI hK zfin_1 (fa_1_2 kc_99) q_153 d1_readLiteral_31 (fun hf4 => ?_)
  refine g_callVcm hK (rm := rm1_fail) (cb := 0) (sb := 0) (As := [.int (zi 1), .int (zi (zI μ 99 2))]) (b := 99) (n := 2) (c1_fail K.2.1 hK.2.2.2.2.2.2.2.2.1 Z 1 (zI μ 99 2) μ zc1 hf4) rfl (ci := 1) rfl (by decide) kc_99 q_400 q_402 qs_1_fail q_4 q_403 rfl (by decide +kernel) (by decide) (Nat.le_of_ble_eq_true rfl) (Nat.le_of_ble_eq_true rfl) (Nat.le_of_ble_eq_true rfl) rfl d1_readLiteral_34 (fun m3 hm3 => ?_)
  exact g_vret hK rfl rfl d1_readLiteral_37
set_option maxRecDepth 20000 in
theorem p1_readLiteral_38 {K : zK} {Z : zZ} (hcx : zOk K Z b1_readLiteral RX1 2 (none) 1 30 0 0 ∧ ∀ x ∈ K.2.2.2.2.2.2.2.2.2.exceptionTable.toList, False) (x1 : Int) (μ : zM) (hx1 : zr x1) : zG K Z (zΩ Z) (zF K Z (zΩ Z) zeM) 0 0 38 [(0, .ref (Z.2.2.1 + 99)), (1, .int (zi x1))] [] μ (f1_readLiteral_38 x1 μ) := by
  obtain ⟨hK, hex⟩ := id hcx
  unfold f1_readLiteral_38
  refine g_aload_n hK 0 rfl rfl d1_readLiteral_38 ?_
  refine g_getM hK zfin_1 (fa_1_4 kc_99) q_155 (w := 2) (by decide) d1_readLiteral_39 (fun hm2 => ?_)
  refine g_iload_n hK 1 rfl rfl d1_readLiteral_42 ?_
  refine g_aload_n hK 0 rfl rfl d1_readLiteral_43 ?_
  refine g_getI hK zfin_1 (fa_1_5 kc_99) q_156 d1_readLiteral_44 (fun hf2 => ?_)
  refine g_callVcm hK (rm := rm2_addLiteral) (cb := 0) (sb := 0) (As := [.int (zi x1), .int (zi (zI μ 99 5))]) (b := (zR μ 99 4)) (n := 2) (c2_addLiteral K.2.1 hK.2.2.2.2.2.2.2.2.1 Z (zR μ 99 4) x1 (zI μ 99 5) μ hm2 hx1 hf2) rfl (ci := 2) rfl (by decide) hm2 q_437 q_438 q_439 q_3 q_440 rfl (by decide +kernel) (by decide) (Nat.le_of_ble_eq_true rfl) (Nat.le_of_ble_eq_true rfl) (Nat.le_of_ble_eq_true rfl) rfl d1_readLiteral_47 (fun m1 hm1 => ?_)
  refine g_aload_n hK 0 rfl rfl d1_readLiteral_50 ?_
  refine g_dup hK d1_readLiteral_51 rfl ?_
  refine g_getI hK zfin_1 (fa_1_2 kc_99) q_153 d1_readLiteral_52 (fun hf3 => ?_)
  refine g_iconst hK d1_readLiteral_55 zki1 ?_
  refine g_iadd hK d1_readLiteral_56 (fun v2 hv2 => ?_)
  refine g_putI hK zfin_1 (fa_1_2 kc_99) q_153 hv2 rfl (tyX1_ok 2 (by decide)) tyX1 tyX1_ok nmX1 d1_readLiteral_57 ?_
  refine g_ltM (fun m2 => ?_)
  exact g_vret hK rfl rfl d1_readLiteral_60
set_option maxRecDepth 20000 in
theorem c1_readLiteral (l : Launch) (hst : l.stackTraces = false) (Z : zZ) (μ : zM) : ∀ x, f1_readLiteral μ = some x → zCt l Z (zΩ Z) y1_readLiteral (zws (.code y1_readLiteral b1_readLiteral 2 (none))) rm1_readLiteral [.ref (Z.2.2.1 + 99)] μ (zeM x) := by
  intro x h
  refine zCt.of (enc := zeM) h (by decide) hst (Nat.le_of_ble_eq_true rfl) (fun K hK0 hex hl _ => ?_)
  subst hl
  have hcx : zOk K Z b1_readLiteral RX1 2 (none) 1 30 0 0 ∧ ∀ x ∈ K.2.2.2.2.2.2.2.2.2.exceptionTable.toList, False := ⟨hK0, hex⟩
  have hK := hcx.1
  show zG K Z (zΩ Z) (zF K Z (zΩ Z) zeM) 0 0 0 [(0, .ref (Z.2.2.1 + 99))] [] μ (f1_readLiteral μ)
  unfold f1_readLiteral
  refine g_aload_n hK 0 rfl rfl d1_readLiteral_0 ?_
  refine g_getM hK zfin_1 (fa_1_0 kc_99) q_151 (w := 100) (by decide) d1_readLiteral_1 (fun hm1 => ?_)
  refine g_aload_n hK 0 rfl rfl d1_readLiteral_4 ?_
  refine g_getI hK zfin_1 (fa_1_2 kc_99) q_153 d1_readLiteral_5 (fun hf1 => ?_)
  refine g_iald hK hm1 d1_readLiteral_8 (fun _ hl1 => ?_)
  refine g_ltI hl1 (fun v1 hv1 => ?_)
  refine g_istore_n hK (lv2 := [(0, .ref (Z.2.2.1 + 99)), (1, .int (zi v1))]) [1, 0] rfl rfl (by decide) d1_readLiteral_9 ?_
  refine g_iload_n hK 1 rfl rfl d1_readLiteral_10 ?_
  refine g_bipush hK d1_readLiteral_11 zkb10 ?_
  refine g_icmp_eq hK hv1 zc10 (tgt := 38) (by decide) d1_readLiteral_13 (fun _ => ?_) (fun _ => ?_)
  · exact p1_readLiteral_38 hcx  v1 μ hv1
  · refine g_iload_n hK 1 rfl rfl d1_readLiteral_16 ?_
    refine g_bipush hK d1_readLiteral_17 zkb32 ?_
    refine g_icmp_lt hK hv1 zc32 (tgt := 28) (by decide) d1_readLiteral_19 (fun _ => ?_) (fun _ => ?_)
    · refine g_lv (lv2 := [(0, .ref (Z.2.2.1 + 99))]) [0] rfl ?_
      exact p1_readLiteral_28 hcx   μ 
    · refine g_iload_n hK 1 rfl rfl d1_readLiteral_22 ?_
      refine g_bipush hK d1_readLiteral_23 zkb126 ?_
      refine g_icmp_le hK hv1 zc126 (tgt := 38) (by decide) d1_readLiteral_25 (fun _ => ?_) (fun _ => ?_)
      · exact p1_readLiteral_38 hcx  v1 μ hv1
      · refine g_lv (lv2 := [(0, .ref (Z.2.2.1 + 99))]) [0] rfl ?_
        exact p1_readLiteral_28 hcx   μ 
set_option maxRecDepth 20000 in
theorem p1_readBody_78 {K : zK} {Z : zZ} (hcx : zOk K Z b1_readBody RX1 3 (none) 4 97 0 0 ∧ ∀ x ∈ K.2.2.2.2.2.2.2.2.2.exceptionTable.toList, False) (k9 : Int → Int → zM → Option zM) (hk9 : ∀ (x1 : Int) (x2 : Int) (μ : zM) (hx1 : zr x1) (hx2 : zr x2), zG K Z (zΩ Z) (zF K Z (zΩ Z) zeM) 0 0 9 [(0, .ref (Z.2.2.1 + 99)), (1, .int (zi x1)), (2, .int (zi x2))] [] μ (k9 x1 x2 μ)) (x2 : Int) (s0 : Int) (μ : zM) (hx2 : zr x2) (hs0 : zr s0) : zG K Z (zΩ Z) (zF K Z (zΩ Z) zeM) 0 0 78 [(0, .ref (Z.2.2.1 + 99)), (2, .int (zi x2))] [.int (zi s0)] μ (f1_readBody_78 k9 x2 s0 μ) := by
  obtain ⟨hK, hex⟩ := id hcx
  unfold f1_readBody_78
  refine g_istore_n hK (lv2 := [(0, .ref (Z.2.2.1 + 99)), (1, .int (zi s0)), (2, .int (zi x2))]) [1, 0, 2] rfl rfl (by decide) d1_readBody_78 ?_
  refine g_aload_n hK 0 rfl rfl d1_readBody_79 ?_
  refine g_callVcm hK (rm := rm1_closePart) (cb := 0) (sb := 0) (As := []) (b := 99) (n := 0) (c1_closePart K.2.1 hK.2.2.2.2.2.2.2.2.1 Z  μ ) rfl (ci := 1) rfl (by decide) kc_99 q_429 q_431 qs_1_closePart q_4 q_432 rfl (by decide +kernel) (by decide) (Nat.le_of_ble_eq_true rfl) (Nat.le_of_ble_eq_true rfl) (Nat.le_of_ble_eq_true rfl) rfl d1_readBody_80 (fun m5 hm5 => ?_)
  refine g_goto hK (tgt := 111) (by decide) d1_readBody_83 ?_
  refine g_iinc hK (lv2 := fun v4 => [(0, .ref (Z.2.2.1 + 99)), (1, .int (zi s0)), (2, .int (zi v4))]) 2 rfl [1, 2, 0] (fun _ => rfl) (by decide) d1_readBody_111 (fun v4 hv4 => ?_)
  refine g_goto hK (tgt := 9) (by decide) d1_readBody_114 ?_
  exact hk9 s0 v4 m5 hs0 hv4
set_option maxRecDepth 20000 in
theorem p1_readBody_9 {K : zK} {Z : zZ} (hcx : zOk K Z b1_readBody RX1 3 (none) 4 97 0 0 ∧ ∀ x ∈ K.2.2.2.2.2.2.2.2.2.exceptionTable.toList, False) (k9 : Int → Int → zM → Option zM) (hk9 : ∀ (x1 : Int) (x2 : Int) (μ : zM) (hx1 : zr x1) (hx2 : zr x2), zG K Z (zΩ Z) (zF K Z (zΩ Z) zeM) 0 0 9 [(0, .ref (Z.2.2.1 + 99)), (1, .int (zi x1)), (2, .int (zi x2))] [] μ (k9 x1 x2 μ)) (x1 : Int) (x2 : Int) (μ : zM) (hx1 : zr x1) (hx2 : zr x2) : zG K Z (zΩ Z) (zF K Z (zΩ Z) zeM) 0 0 9 [(0, .ref (Z.2.2.1 + 99)), (1, .int (zi x1)), (2, .int (zi x2))] [] μ (f1_readBody_9 k9 x1 x2 μ) := by
  obtain ⟨hK, hex⟩ := id hcx
  unfold f1_readBody_9
  refine g_iload_n hK 2 rfl rfl d1_readBody_9 ?_
  refine g_aload_n hK 0 rfl rfl d1_readBody_10 ?_
  refine g_getI hK zfin_1 (fa_1_1 kc_99) q_152 d1_readBody_11 (fun hf1 => ?_)
  refine g_icmp_gt hK hx2 hf1 (tgt := 117) (by decide) d1_readBody_14 (fun _ => ?_) (fun _ => ?_)
  · exact g_vret hK rfl rfl d1_readBody_117
  · refine g_iload_n hK 1 rfl rfl d1_readBody_17 ?_
    refine g_if_ne hK hx1 (tgt := 117) (by decide) d1_readBody_18 (fun _ => ?_) (fun _ => ?_)
    · exact g_vret hK rfl rfl d1_readBody_117
    · refine g_aload_n hK 0 rfl rfl d1_readBody_21 ?_
      refine g_getI hK zfin_1 (fa_1_6 kc_99) q_158 d1_readBody_22 (fun hf2 => ?_)
      refine g_if_ne hK hf2 (tgt := 117) (by decide) d1_readBody_25 (fun _ => ?_) (fun _ => ?_)
      · exact g_vret hK rfl rfl d1_readBody_117
      · refine g_aload_n hK 0 rfl rfl d1_readBody_28 ?_
        refine g_getI hK zfin_1 (fa_1_2 kc_99) q_153 d1_readBody_29 (fun hf3 => ?_)
        refine g_aload_n hK 0 rfl rfl d1_readBody_32 ?_
        refine g_getI hK zfin_1 (fa_1_1 kc_99) q_152 d1_readBody_33 (fun hf4 => ?_)
        refine g_icmp_lt hK hf3 hf4 (tgt := 51) (by decide) d1_readBody_36 (fun _ => ?_) (fun _ => ?_)
        · refine g_aload_n hK 0 rfl rfl d1_readBody_51 ?_
          refine g_getM hK zfin_1 (fa_1_0 kc_99) q_151 (w := 100) (by decide) d1_readBody_52 (fun hm1 => ?_)
          refine g_aload_n hK 0 rfl rfl d1_readBody_55 ?_
          refine g_getI hK zfin_1 (fa_1_2 kc_99) q_153 d1_readBody_56 (fun hf5 => ?_)
          refine g_iald hK hm1 d1_readBody_59 (fun _ hl1 => ?_)
          refine g_bipush hK d1_readBody_60 zkb125 ?_
          refine g_icmp_ne hK hl1 zc125 (tgt := 86) (by decide) d1_readBody_62 (fun _ => ?_) (fun _ => ?_)
          · refine g_aload_n hK 0 rfl rfl d1_readBody_86 ?_
            refine g_getM hK zfin_1 (fa_1_0 kc_99) q_151 (w := 100) (by decide) d1_readBody_87 (fun hm2 => ?_)
            refine g_aload_n hK 0 rfl rfl d1_readBody_90 ?_
            refine g_getI hK zfin_1 (fa_1_2 kc_99) q_153 d1_readBody_91 (fun hf6 => ?_)
            refine g_iald hK hm2 d1_readBody_94 (fun _ hl2 => ?_)
            refine g_bipush hK d1_readBody_95 zkb36 ?_
            refine g_icmp_ne hK hl2 zc36 (tgt := 107) (by decide) d1_readBody_97 (fun _ => ?_) (fun _ => ?_)
            · refine g_aload_n hK 0 rfl rfl d1_readBody_107 ?_
              refine g_callVcm hK (rm := rm1_readLiteral) (cb := 0) (sb := 0) (As := []) (b := 99) (n := 0) (c1_readLiteral K.2.1 hK.2.2.2.2.2.2.2.2.1 Z  μ ) rfl (ci := 1) rfl (by decide) kc_99 q_472 q_474 qs_1_readLiteral q_4 q_475 rfl (by decide +kernel) (by decide) (Nat.le_of_ble_eq_true rfl) (Nat.le_of_ble_eq_true rfl) (Nat.le_of_ble_eq_true rfl) rfl d1_readBody_108 (fun m2 hm2 => ?_)
              refine g_iinc hK (lv2 := fun v1 => [(0, .ref (Z.2.2.1 + 99)), (1, .int (zi x1)), (2, .int (zi v1))]) 2 rfl [1, 2, 0] (fun _ => rfl) (by decide) d1_readBody_111 (fun v1 hv1 => ?_)
              refine g_goto hK (tgt := 9) (by decide) d1_readBody_114 ?_
              exact hk9 x1 v1 m2 hx1 hv1
            · refine g_aload_n hK 0 rfl rfl d1_readBody_100 ?_
              refine g_callVcm hK (rm := rm1_readDollar) (cb := 0) (sb := 0) (As := []) (b := 99) (n := 0) (c1_readDollar K.2.1 hK.2.2.2.2.2.2.2.2.1 Z  μ ) rfl (ci := 1) rfl (by decide) kc_99 q_433 q_435 qs_1_readDollar q_4 q_436 rfl (by decide +kernel) (by decide) (Nat.le_of_ble_eq_true rfl) (Nat.le_of_ble_eq_true rfl) (Nat.le_of_ble_eq_true rfl) rfl d1_readBody_101 (fun m3 hm3 => ?_)
              refine g_goto hK (tgt := 111) (by decide) d1_readBody_104 ?_
              refine g_iinc hK (lv2 := fun v2 => [(0, .ref (Z.2.2.1 + 99)), (1, .int (zi x1)), (2, .int (zi v2))]) 2 rfl [1, 2, 0] (fun _ => rfl) (by decide) d1_readBody_111 (fun v2 hv2 => ?_)
              refine g_goto hK (tgt := 9) (by decide) d1_readBody_114 ?_
              exact hk9 x1 v2 m3 hx1 hv2
          · refine g_aload_n hK 0 rfl rfl d1_readBody_65 ?_
            refine g_getI hK zfin_1 (fa_1_5 kc_99) q_156 d1_readBody_66 (fun hf7 => ?_)
            refine g_iconst hK d1_readBody_69 zkim1 ?_
            refine g_icmp_ne hK hf7 zcm1 (tgt := 77) (by decide) d1_readBody_70 (fun _ => ?_) (fun _ => ?_)
            · refine g_iconst hK d1_readBody_77 zki0 ?_
              refine g_lv (lv2 := [(0, .ref (Z.2.2.1 + 99)), (2, .int (zi x2))]) [0, 2] rfl ?_
              exact p1_readBody_78 hcx k9 hk9 x2 0 μ hx2 zc0
            · refine g_iconst hK d1_readBody_73 zki1 ?_
              refine g_goto hK (tgt := 78) (by decide) d1_readBody_74 ?_
              refine g_lv (lv2 := [(0, .ref (Z.2.2.1 + 99)), (2, .int (zi x2))]) [0, 2] rfl ?_
              exact p1_readBody_78 hcx k9 hk9 x2 1 μ hx2 zc1
        · refine g_aload_n hK 0 rfl rfl d1_readBody_39 ?_
          refine g_iconst hK d1_readBody_40 zki1 ?_
          refine g_aload_n hK 0 rfl rfl d1_readBody_41 ?_
          refine g_getI hK zfin_1 (fa_1_1 kc_99) q_152 d1_readBody_42 (fun hf8 => ?_)
          refine g_callVcm hK (rm := rm1_fail) (cb := 0) (sb := 0) (As := [.int (zi 1), .int (zi (zI μ 99 1))]) (b := 99) (n := 2) (c1_fail K.2.1 hK.2.2.2.2.2.2.2.2.1 Z 1 (zI μ 99 1) μ zc1 hf8) rfl (ci := 1) rfl (by decide) kc_99 q_400 q_402 qs_1_fail q_4 q_403 rfl (by decide +kernel) (by decide) (Nat.le_of_ble_eq_true rfl) (Nat.le_of_ble_eq_true rfl) (Nat.le_of_ble_eq_true rfl) rfl d1_readBody_45 (fun m4 hm4 => ?_)
          refine g_goto hK (tgt := 111) (by decide) d1_readBody_48 ?_
          refine g_iinc hK (lv2 := fun v3 => [(0, .ref (Z.2.2.1 + 99)), (1, .int (zi x1)), (2, .int (zi v3))]) 2 rfl [1, 2, 0] (fun _ => rfl) (by decide) d1_readBody_111 (fun v3 hv3 => ?_)
          refine g_goto hK (tgt := 9) (by decide) d1_readBody_114 ?_
          exact hk9 x1 v3 m4 hx1 hv3
set_option maxRecDepth 20000 in
theorem l1_readBody_9 {K : zK} {Z : zZ} (hcx : zOk K Z b1_readBody RX1 3 (none) 4 97 0 0 ∧ ∀ x ∈ K.2.2.2.2.2.2.2.2.2.exceptionTable.toList, False) : ∀ (i9 : Nat) (x1 : Int) (x2 : Int) (μ : zM) (hx1 : zr x1) (hx2 : zr x2), zG K Z (zΩ Z) (zF K Z (zΩ Z) zeM) 0 0 9 [(0, .ref (Z.2.2.1 + 99)), (1, .int (zi x1)), (2, .int (zi x2))] [] μ (zfx (f1_readBody_9) (fun _ _ _ => none) i9 x1 x2 μ) := by
  intro i9
  induction i9 with
  | zero => intro x1 x2 μ hx1 hx2; exact g_none
  | succ i9 ih => intro x1 x2 μ hx1 hx2; exact p1_readBody_9 hcx  (zfx (f1_readBody_9) (fun _ _ _ => none) i9) ih x1 x2 μ hx1 hx2
set_option maxRecDepth 20000 in
theorem c1_readBody (l : Launch) (hst : l.stackTraces = false) (Z : zZ) (μ : zM) : ∀ x, f1_readBody μ = some x → zCt l Z (zΩ Z) y1_readBody (zws (.code y1_readBody b1_readBody 3 (none))) rm1_readBody [.ref (Z.2.2.1 + 99)] μ (zeM x) := by
  intro x h
  refine zCt.of (enc := zeM) h (by decide) hst (Nat.le_of_ble_eq_true rfl) (fun K hK0 hex hl _ => ?_)
  subst hl
  have hcx : zOk K Z b1_readBody RX1 3 (none) 4 97 0 0 ∧ ∀ x ∈ K.2.2.2.2.2.2.2.2.2.exceptionTable.toList, False := ⟨hK0, hex⟩
  have hK := hcx.1
  show zG K Z (zΩ Z) (zF K Z (zΩ Z) zeM) 0 0 0 [(0, .ref (Z.2.2.1 + 99))] [] μ (f1_readBody μ)
  unfold f1_readBody
  refine g_aload_n hK 0 rfl rfl d1_readBody_0 ?_
  refine g_iconst hK d1_readBody_1 zkim1 ?_
  refine g_putI hK zfin_1 (fa_1_5 kc_99) q_156 zcm1 rfl (tyX1_ok 5 (by decide)) tyX1 tyX1_ok nmX1 d1_readBody_2 ?_
  refine g_ltM (fun m1 => ?_)
  refine g_iconst hK d1_readBody_5 zki0 ?_
  refine g_istore_n hK (lv2 := [(0, .ref (Z.2.2.1 + 99)), (1, .int (zi 0))]) [1, 0] rfl rfl (by decide) d1_readBody_6 ?_
  refine g_iconst hK d1_readBody_7 zki0 ?_
  refine g_istore_n hK (lv2 := [(0, .ref (Z.2.2.1 + 99)), (1, .int (zi 0)), (2, .int (zi 0))]) [1, 2, 0] rfl rfl (by decide) d1_readBody_8 ?_
  exact l1_readBody_9 hcx  zFu 0 0 m1 zc0 zc0
set_option maxRecDepth 20000 in
theorem p1_readOrder_46 {K : zK} {Z : zZ} (hcx : zOk K Z b1_readOrder RX1 4 (none) 7 223 0 0 ∧ ∀ x ∈ K.2.2.2.2.2.2.2.2.2.exceptionTable.toList, False) (a1 : Int) (ha1 : zr a1) (x2 : Int) (x3 : Int) (μ : zM) (hx2 : zr x2) (hx3 : zr x3) : zG K Z (zΩ Z) (zF K Z (zΩ Z) zeM) 0 0 46 [(0, .ref (Z.2.2.1 + 99)), (2, .int (zi x2)), (3, .int (zi x3))] [] μ (f1_readOrder_46 a1 x2 x3 μ) := by
  obtain ⟨hK, hex⟩ := id hcx
  unfold f1_readOrder_46
  refine g_aload_n hK 0 rfl rfl d1_readOrder_46 ?_
  refine g_iload_n hK 1 rfl rfl d1_readOrder_47 ?_
  refine g_putI hK zfin_1 (fa_1_2 kc_99) q_153 hx2 rfl (tyX1_ok 2 (by decide)) tyX1 tyX1_ok nmX1 d1_readOrder_48 ?_
  refine g_ltM (fun m4 => ?_)
  refine g_aload_n hK 0 rfl rfl d1_readOrder_51 ?_
  refine g_callVcm hK (rm := rm1_skipBlanks) (cb := 0) (sb := 0) (As := []) (b := 99) (n := 0) (c1_skipBlanks K.2.1 hK.2.2.2.2.2.2.2.2.1 Z  m4 ) rfl (ci := 1) rfl (by decide) kc_99 q_335 q_337 qs_1_skipBlanks q_4 q_338 rfl (by decide +kernel) (by decide) (Nat.le_of_ble_eq_true rfl) (Nat.le_of_ble_eq_true rfl) (Nat.le_of_ble_eq_true rfl) rfl d1_readOrder_52 (fun m5 hm5 => ?_)
  refine g_aload_n hK 0 rfl rfl d1_readOrder_55 ?_
  refine g_bipush hK d1_readOrder_56 zkb59 ?_
  refine g_callVco hK (mk := mkZ) (rm := rm1_isAt) (cb := 0) (sb := 0) (As := [.int (zi 59)]) (b := 99) (n := 1) (c1_isAt K.2.1 hK.2.2.2.2.2.2.2.2.1 Z 59 m5 zc59) rfl (ci := 1) rfl (by decide) kc_99 q_421 q_423 qs_1_isAt q_4 q_424 rfl (by decide +kernel) (by decide) (Nat.le_of_ble_eq_true rfl) (Nat.le_of_ble_eq_true rfl) (Nat.le_of_ble_eq_true rfl) rfl d1_readOrder_58 (fun r4 hr4 hpr4 => ?_)
  refine g_if_ne hK (zb_r r4) (tgt := 74) (by decide) d1_readOrder_61 (fun _ => ?_) (fun _ => ?_)
  · refine g_aload_n hK 0 rfl rfl d1_readOrder_74 ?_
    refine g_dup hK d1_readOrder_75 rfl ?_
    refine g_getI hK zfin_1 (fa_1_2 kc_99) q_153 d1_readOrder_76 (fun hf2 => ?_)
    refine g_iconst hK d1_readOrder_79 zki1 ?_
    refine g_iadd hK d1_readOrder_80 (fun v1 hv1 => ?_)
    refine g_putI hK zfin_1 (fa_1_2 kc_99) q_153 hv1 rfl (tyX1_ok 2 (by decide)) tyX1 tyX1_ok nmX1 d1_readOrder_81 ?_
    refine g_ltM (fun m6 => ?_)
    refine g_aload_n hK 0 rfl rfl d1_readOrder_84 ?_
    refine g_getM hK zfin_1 (fa_1_3 kc_99) q_154 (w := 0) (by decide) d1_readOrder_85 (fun hm1 => ?_)
    refine g_iload_n hK 2 rfl rfl d1_readOrder_88 ?_
    refine g_putZ hK zfin_0 (fa_0_2 hm1) q_134 rfl (tyX0_ok 2 (by decide)) tyX0 tyX0_ok nmX0 d1_readOrder_89 ?_
    refine g_ltM (fun m7 => ?_)
    exact g_vret hK rfl rfl d1_readOrder_92
  · refine g_aload_n hK 0 rfl rfl d1_readOrder_64 ?_
    refine g_iconst hK d1_readOrder_65 zki1 ?_
    refine g_aload_n hK 0 rfl rfl d1_readOrder_66 ?_
    refine g_getI hK zfin_1 (fa_1_2 kc_99) q_153 d1_readOrder_67 (fun hf3 => ?_)
    refine g_callVcm hK (rm := rm1_fail) (cb := 0) (sb := 0) (As := [.int (zi 1), .int (zi (zI m5 99 2))]) (b := 99) (n := 2) (c1_fail K.2.1 hK.2.2.2.2.2.2.2.2.1 Z 1 (zI m5 99 2) m5 zc1 hf3) rfl (ci := 1) rfl (by decide) kc_99 q_400 q_402 qs_1_fail q_4 q_403 rfl (by decide +kernel) (by decide) (Nat.le_of_ble_eq_true rfl) (Nat.le_of_ble_eq_true rfl) (Nat.le_of_ble_eq_true rfl) rfl d1_readOrder_70 (fun m8 hm8 => ?_)
    exact g_vret hK rfl rfl d1_readOrder_73
set_option maxRecDepth 20000 in
theorem c1_readOrder (l : Launch) (hst : l.stackTraces = false) (Z : zZ) (a1 : Int) (μ : zM) (ha1 : zr a1) : ∀ x, f1_readOrder a1 μ = some x → zCt l Z (zΩ Z) y1_readOrder (zws (.code y1_readOrder b1_readOrder 4 (none))) rm1_readOrder [.ref (Z.2.2.1 + 99), .int (zi a1)] μ (zeM x) := by
  intro x h
  refine zCt.of (enc := zeM) h (by decide) hst (Nat.le_of_ble_eq_true rfl) (fun K hK0 hex hl _ => ?_)
  subst hl
  have hcx : zOk K Z b1_readOrder RX1 4 (none) 7 223 0 0 ∧ ∀ x ∈ K.2.2.2.2.2.2.2.2.2.exceptionTable.toList, False := ⟨hK0, hex⟩
  have hK := hcx.1
  show zG K Z (zΩ Z) (zF K Z (zΩ Z) zeM) 0 0 0 [(0, .ref (Z.2.2.1 + 99)), (1, .int (zi a1))] [] μ (f1_readOrder a1 μ)
  unfold f1_readOrder
  refine g_aload_n hK 0 rfl rfl d1_readOrder_0 ?_
  refine g_iload_n hK 1 rfl rfl d1_readOrder_1 ?_
  refine g_putI hK zfin_1 (fa_1_2 kc_99) q_153 ha1 rfl (tyX1_ok 2 (by decide)) tyX1 tyX1_ok nmX1 d1_readOrder_2 ?_
  refine g_ltM (fun m1 => ?_)
  refine g_aload_n hK 0 rfl rfl d1_readOrder_5 ?_
  refine g_callVcm hK (rm := rm1_skipBlanks) (cb := 0) (sb := 0) (As := []) (b := 99) (n := 0) (c1_skipBlanks K.2.1 hK.2.2.2.2.2.2.2.2.1 Z  m1 ) rfl (ci := 1) rfl (by decide) kc_99 q_335 q_337 qs_1_skipBlanks q_4 q_338 rfl (by decide +kernel) (by decide) (Nat.le_of_ble_eq_true rfl) (Nat.le_of_ble_eq_true rfl) (Nat.le_of_ble_eq_true rfl) rfl d1_readOrder_6 (fun m2 hm2 => ?_)
  refine g_aload_n hK 0 rfl rfl d1_readOrder_9 ?_
  refine g_callVco hK (mk := mkI) (rm := rm1_endOfWord) (cb := 0) (sb := 0) (As := []) (b := 99) (n := 0) (c1_endOfWord K.2.1 hK.2.2.2.2.2.2.2.2.1 Z  m2 ) rfl (ci := 1) rfl (by decide) kc_99 q_339 q_341 qs_1_endOfWord q_4 q_342 rfl (by decide +kernel) (by decide) (Nat.le_of_ble_eq_true rfl) (Nat.le_of_ble_eq_true rfl) (Nat.le_of_ble_eq_true rfl) rfl d1_readOrder_10 (fun r1 hr1 hpr1 => ?_)
  refine g_istore_n hK (lv2 := [(0, .ref (Z.2.2.1 + 99)), (1, .int (zi a1)), (2, .int (zi r1))]) [1, 2, 0] rfl rfl (by decide) d1_readOrder_13 ?_
  refine g_aload_n hK 0 rfl rfl d1_readOrder_14 ?_
  refine g_iload_n hK 2 rfl rfl d1_readOrder_15 ?_
  refine g_ldcS hK (i9 := 2) rfl d1_readOrder_16 ?_
  refine g_callVco hK (mk := mkZ) (rm := rm1_isWord) (cb := 0) (sb := 0) (As := [.int (zi r1), .ref (Z.2.2.2.1 2)]) (b := 99) (n := 2) (c1_isWord K.2.1 hK.2.2.2.2.2.2.2.2.1 Z r1 2 m2 hpr1) rfl (ci := 1) rfl (by decide) kc_99 q_344 q_346 qs_1_isWord q_4 q_347 rfl (by decide +kernel) (by decide) (Nat.le_of_ble_eq_true rfl) (Nat.le_of_ble_eq_true rfl) (Nat.le_of_ble_eq_true rfl) rfl d1_readOrder_18 (fun r2 hr2 hpr2 => ?_)
  refine g_istore_n hK (lv2 := [(0, .ref (Z.2.2.1 + 99)), (1, .int (zi a1)), (2, .int (zi r1)), (3, .int (zi (zb r2)))]) [1, 2, 3, 0] rfl rfl (by decide) d1_readOrder_21 ?_
  refine g_iload_n hK 3 rfl rfl d1_readOrder_22 ?_
  refine g_if_ne hK (zb_r r2) (tgt := 46) (by decide) d1_readOrder_23 (fun _ => ?_) (fun _ => ?_)
  · refine g_lv (lv2 := [(0, .ref (Z.2.2.1 + 99)), (2, .int (zi r1)), (3, .int (zi (zb r2)))]) [0, 2, 3] rfl ?_
    exact p1_readOrder_46 hcx a1 ha1  r1 (zb r2) m2 hpr1 (zb_r r2)
  · refine g_aload_n hK 0 rfl rfl d1_readOrder_26 ?_
    refine g_iload_n hK 2 rfl rfl d1_readOrder_27 ?_
    refine g_ldcS hK (i9 := 3) rfl d1_readOrder_28 ?_
    refine g_callVco hK (mk := mkZ) (rm := rm1_isWord) (cb := 0) (sb := 0) (As := [.int (zi r1), .ref (Z.2.2.2.1 3)]) (b := 99) (n := 2) (c1_isWord K.2.1 hK.2.2.2.2.2.2.2.2.1 Z r1 3 m2 hpr1) rfl (ci := 1) rfl (by decide) kc_99 q_344 q_346 qs_1_isWord q_4 q_347 rfl (by decide +kernel) (by decide) (Nat.le_of_ble_eq_true rfl) (Nat.le_of_ble_eq_true rfl) (Nat.le_of_ble_eq_true rfl) rfl d1_readOrder_30 (fun r3 hr3 hpr3 => ?_)
    refine g_if_ne hK (zb_r r3) (tgt := 46) (by decide) d1_readOrder_33 (fun _ => ?_) (fun _ => ?_)
    · refine g_lv (lv2 := [(0, .ref (Z.2.2.1 + 99)), (2, .int (zi r1)), (3, .int (zi (zb r2)))]) [0, 2, 3] rfl ?_
      exact p1_readOrder_46 hcx a1 ha1  r1 (zb r2) m2 hpr1 (zb_r r2)
    · refine g_aload_n hK 0 rfl rfl d1_readOrder_36 ?_
      refine g_iconst hK d1_readOrder_37 zki1 ?_
      refine g_aload_n hK 0 rfl rfl d1_readOrder_38 ?_
      refine g_getI hK zfin_1 (fa_1_2 kc_99) q_153 d1_readOrder_39 (fun hf1 => ?_)
      refine g_callVcm hK (rm := rm1_fail) (cb := 0) (sb := 0) (As := [.int (zi 1), .int (zi (zI m2 99 2))]) (b := 99) (n := 2) (c1_fail K.2.1 hK.2.2.2.2.2.2.2.2.1 Z 1 (zI m2 99 2) m2 zc1 hf1) rfl (ci := 1) rfl (by decide) kc_99 q_400 q_402 qs_1_fail q_4 q_403 rfl (by decide +kernel) (by decide) (Nat.le_of_ble_eq_true rfl) (Nat.le_of_ble_eq_true rfl) (Nat.le_of_ble_eq_true rfl) rfl d1_readOrder_42 (fun m3 hm3 => ?_)
      exact g_vret hK rfl rfl d1_readOrder_45
set_option maxRecDepth 20000 in
theorem p1_readLibrary_157 {K : zK} {Z : zZ} (hcx : zOk K Z b1_readLibrary RX1 5 (none) 8 246 0 0 ∧ ∀ x ∈ K.2.2.2.2.2.2.2.2.2.exceptionTable.toList, False) (a1 : Nat) (a2 : Int) (ha1 : zkd a1 = 100) (ha2 : zr a2) (k52 : Int → zM → Option zM) (hk52 : ∀ (x3 : Int) (μ : zM) (hx3 : zr x3), zG K Z (zΩ Z) (zF K Z (zΩ Z) zeM) 0 0 52 [(0, .ref (Z.2.2.1 + 99)), (3, .int (zi x3))] [] μ (k52 x3 μ)) (x3 : Int) (μ : zM) (hx3 : zr x3) : zG K Z (zΩ Z) (zF K Z (zΩ Z) zeM) 0 0 157 [(0, .ref (Z.2.2.1 + 99)), (3, .int (zi x3))] [] μ (f1_readLibrary_157 a1 a2 k52 x3 μ) := by
  obtain ⟨hK, hex⟩ := id hcx
  unfold f1_readLibrary_157
  refine g_aload_n hK 0 rfl rfl d1_readLibrary_157 ?_
  refine g_callVcm hK (rm := rm1_skipBlanks) (cb := 0) (sb := 0) (As := []) (b := 99) (n := 0) (c1_skipBlanks K.2.1 hK.2.2.2.2.2.2.2.2.1 Z  μ ) rfl (ci := 1) rfl (by decide) kc_99 q_335 q_337 qs_1_skipBlanks q_4 q_338 rfl (by decide +kernel) (by decide) (Nat.le_of_ble_eq_true rfl) (Nat.le_of_ble_eq_true rfl) (Nat.le_of_ble_eq_true rfl) rfl d1_readLibrary_158 (fun m14 hm14 => ?_)
  refine g_iinc hK (lv2 := fun v3 => [(0, .ref (Z.2.2.1 + 99)), (3, .int (zi v3))]) 1 rfl [1, 0] (fun _ => rfl) (by decide) d1_readLibrary_161 (fun v3 hv3 => ?_)
  refine g_goto hK (tgt := 52) (by decide) d1_readLibrary_164 ?_
  exact hk52 v3 m14 hv3
set_option maxRecDepth 20000 in
theorem p1_readLibrary_52 {K : zK} {Z : zZ} (hcx : zOk K Z b1_readLibrary RX1 5 (none) 8 246 0 0 ∧ ∀ x ∈ K.2.2.2.2.2.2.2.2.2.exceptionTable.toList, False) (a1 : Nat) (a2 : Int) (ha1 : zkd a1 = 100) (ha2 : zr a2) (k52 : Int → zM → Option zM) (hk52 : ∀ (x3 : Int) (μ : zM) (hx3 : zr x3), zG K Z (zΩ Z) (zF K Z (zΩ Z) zeM) 0 0 52 [(0, .ref (Z.2.2.1 + 99)), (3, .int (zi x3))] [] μ (k52 x3 μ)) (x3 : Int) (μ : zM) (hx3 : zr x3) : zG K Z (zΩ Z) (zF K Z (zΩ Z) zeM) 0 0 52 [(0, .ref (Z.2.2.1 + 99)), (3, .int (zi x3))] [] μ (f1_readLibrary_52 a1 a2 k52 x3 μ) := by
  obtain ⟨hK, hex⟩ := id hcx
  unfold f1_readLibrary_52
  refine g_iload_n hK 1 rfl rfl d1_readLibrary_52 ?_
  refine g_aload_n hK 0 rfl rfl d1_readLibrary_53 ?_
  refine g_getI hK zfin_1 (fa_1_1 kc_99) q_152 d1_readLibrary_54 (fun hf1 => ?_)
  refine g_icmp_ge hK hx3 hf1 (tgt := 167) (by decide) d1_readLibrary_57 (fun _ => ?_) (fun _ => ?_)
  · exact g_vret hK rfl rfl d1_readLibrary_167
  · refine g_aload_n hK 0 rfl rfl d1_readLibrary_60 ?_
    refine g_getI hK zfin_1 (fa_1_2 kc_99) q_153 d1_readLibrary_61 (fun hf2 => ?_)
    refine g_aload_n hK 0 rfl rfl d1_readLibrary_64 ?_
    refine g_getI hK zfin_1 (fa_1_1 kc_99) q_152 d1_readLibrary_65 (fun hf3 => ?_)
    refine g_icmp_ge hK hf2 hf3 (tgt := 167) (by decide) d1_readLibrary_68 (fun _ => ?_) (fun _ => ?_)
    · exact g_vret hK rfl rfl d1_readLibrary_167
    · refine g_aload_n hK 0 rfl rfl d1_readLibrary_71 ?_
      refine g_getI hK zfin_1 (fa_1_6 kc_99) q_158 d1_readLibrary_72 (fun hf4 => ?_)
      refine g_if_ne hK hf4 (tgt := 167) (by decide) d1_readLibrary_75 (fun _ => ?_) (fun _ => ?_)
      · exact g_vret hK rfl rfl d1_readLibrary_167
      · refine g_aload_n hK 0 rfl rfl d1_readLibrary_78 ?_
        refine g_callVco hK (mk := mkI) (rm := rm1_endOfWord) (cb := 0) (sb := 0) (As := []) (b := 99) (n := 0) (c1_endOfWord K.2.1 hK.2.2.2.2.2.2.2.2.1 Z  μ ) rfl (ci := 1) rfl (by decide) kc_99 q_339 q_341 qs_1_endOfWord q_4 q_342 rfl (by decide +kernel) (by decide) (Nat.le_of_ble_eq_true rfl) (Nat.le_of_ble_eq_true rfl) (Nat.le_of_ble_eq_true rfl) rfl d1_readLibrary_79 (fun r1 hr1 hpr1 => ?_)
        refine g_istore hK (lv2 := [(0, .ref (Z.2.2.1 + 99)), (3, .int (zi x3)), (4, .int (zi r1))]) [1, 2, 0] rfl (by decide) d1_readLibrary_82 ?_
        refine g_aload_n hK 0 rfl rfl d1_readLibrary_84 ?_
        refine g_iload hK 2 rfl d1_readLibrary_85 ?_
        refine g_ldcS hK (i9 := 0) rfl d1_readLibrary_87 ?_
        refine g_callVco hK (mk := mkZ) (rm := rm1_isWord) (cb := 0) (sb := 0) (As := [.int (zi r1), .ref (Z.2.2.2.1 0)]) (b := 99) (n := 2) (c1_isWord K.2.1 hK.2.2.2.2.2.2.2.2.1 Z r1 0 μ hpr1) rfl (ci := 1) rfl (by decide) kc_99 q_344 q_346 qs_1_isWord q_4 q_347 rfl (by decide +kernel) (by decide) (Nat.le_of_ble_eq_true rfl) (Nat.le_of_ble_eq_true rfl) (Nat.le_of_ble_eq_true rfl) rfl d1_readLibrary_89 (fun r2 hr2 hpr2 => ?_)
        refine g_if_eq hK (zb_r r2) (tgt := 128) (by decide) d1_readLibrary_92 (fun _ => ?_) (fun _ => ?_)
        · refine g_aload_n hK 0 rfl rfl d1_readLibrary_128 ?_
          refine g_iload hK 2 rfl d1_readLibrary_129 ?_
          refine g_ldcS hK (i9 := 1) rfl d1_readLibrary_131 ?_
          refine g_callVco hK (mk := mkZ) (rm := rm1_isWord) (cb := 0) (sb := 0) (As := [.int (zi r1), .ref (Z.2.2.2.1 1)]) (b := 99) (n := 2) (c1_isWord K.2.1 hK.2.2.2.2.2.2.2.2.1 Z r1 1 μ hpr1) rfl (ci := 1) rfl (by decide) kc_99 q_344 q_346 qs_1_isWord q_4 q_347 rfl (by decide +kernel) (by decide) (Nat.le_of_ble_eq_true rfl) (Nat.le_of_ble_eq_true rfl) (Nat.le_of_ble_eq_true rfl) rfl d1_readLibrary_133 (fun r3 hr3 hpr3 => ?_)
          refine g_if_eq hK (zb_r r3) (tgt := 148) (by decide) d1_readLibrary_136 (fun _ => ?_) (fun _ => ?_)
          · refine g_aload_n hK 0 rfl rfl d1_readLibrary_148 ?_
            refine g_iconst hK d1_readLibrary_149 zki1 ?_
            refine g_aload_n hK 0 rfl rfl d1_readLibrary_150 ?_
            refine g_getI hK zfin_1 (fa_1_2 kc_99) q_153 d1_readLibrary_151 (fun hf5 => ?_)
            refine g_callVcm hK (rm := rm1_fail) (cb := 0) (sb := 0) (As := [.int (zi 1), .int (zi (zI μ 99 2))]) (b := 99) (n := 2) (c1_fail K.2.1 hK.2.2.2.2.2.2.2.2.1 Z 1 (zI μ 99 2) μ zc1 hf5) rfl (ci := 1) rfl (by decide) kc_99 q_400 q_402 qs_1_fail q_4 q_403 rfl (by decide +kernel) (by decide) (Nat.le_of_ble_eq_true rfl) (Nat.le_of_ble_eq_true rfl) (Nat.le_of_ble_eq_true rfl) rfl d1_readLibrary_154 (fun m9 hm9 => ?_)
            refine g_lv (lv2 := [(0, .ref (Z.2.2.1 + 99)), (3, .int (zi x3))]) [0, 1] rfl ?_
            exact p1_readLibrary_157 hcx a1 a2 ha1 ha2 k52 hk52 x3 m9 hx3
          · refine g_aload_n hK 0 rfl rfl d1_readLibrary_139 ?_
            refine g_iload hK 2 rfl d1_readLibrary_140 ?_
            refine g_callVcm hK (rm := rm1_readOrder) (cb := 0) (sb := 0) (As := [.int (zi r1)]) (b := 99) (n := 1) (c1_readOrder K.2.1 hK.2.2.2.2.2.2.2.2.1 Z r1 μ hpr1) rfl (ci := 1) rfl (by decide) kc_99 q_477 q_479 qs_1_readOrder q_4 q_480 rfl (by decide +kernel) (by decide) (Nat.le_of_ble_eq_true rfl) (Nat.le_of_ble_eq_true rfl) (Nat.le_of_ble_eq_true rfl) rfl d1_readLibrary_142 (fun m10 hm10 => ?_)
            refine g_goto hK (tgt := 157) (by decide) d1_readLibrary_145 ?_
            refine g_lv (lv2 := [(0, .ref (Z.2.2.1 + 99)), (3, .int (zi x3))]) [0, 1] rfl ?_
            exact p1_readLibrary_157 hcx a1 a2 ha1 ha2 k52 hk52 x3 m10 hx3
        · refine g_aload_n hK 0 rfl rfl d1_readLibrary_95 ?_
          refine g_iload hK 2 rfl d1_readLibrary_96 ?_
          refine g_callVcm hK (rm := rm1_readHead) (cb := 0) (sb := 0) (As := [.int (zi r1)]) (b := 99) (n := 1) (c1_readHead K.2.1 hK.2.2.2.2.2.2.2.2.1 Z r1 μ hpr1) rfl (ci := 1) rfl (by decide) kc_99 q_396 q_398 qs_1_readHead q_4 q_399 rfl (by decide +kernel) (by decide) (Nat.le_of_ble_eq_true rfl) (Nat.le_of_ble_eq_true rfl) (Nat.le_of_ble_eq_true rfl) rfl d1_readLibrary_98 (fun m11 hm11 => ?_)
          refine g_aload_n hK 0 rfl rfl d1_readLibrary_101 ?_
          refine g_getI hK zfin_1 (fa_1_6 kc_99) q_158 d1_readLibrary_102 (fun hf6 => ?_)
          refine g_if_ne hK hf6 (tgt := 157) (by decide) d1_readLibrary_105 (fun _ => ?_) (fun _ => ?_)
          · refine g_lv (lv2 := [(0, .ref (Z.2.2.1 + 99)), (3, .int (zi x3))]) [0, 1] rfl ?_
            exact p1_readLibrary_157 hcx a1 a2 ha1 ha2 k52 hk52 x3 m11 hx3
          · refine g_aload_n hK 0 rfl rfl d1_readLibrary_108 ?_
            refine g_callVcm hK (rm := rm1_readBody) (cb := 0) (sb := 0) (As := []) (b := 99) (n := 0) (c1_readBody K.2.1 hK.2.2.2.2.2.2.2.2.1 Z  m11 ) rfl (ci := 1) rfl (by decide) kc_99 q_425 q_427 qs_1_readBody q_4 q_428 rfl (by decide +kernel) (by decide) (Nat.le_of_ble_eq_true rfl) (Nat.le_of_ble_eq_true rfl) (Nat.le_of_ble_eq_true rfl) rfl d1_readLibrary_109 (fun m12 hm12 => ?_)
            refine g_aload_n hK 0 rfl rfl d1_readLibrary_112 ?_
            refine g_getM hK zfin_1 (fa_1_3 kc_99) q_154 (w := 0) (by decide) d1_readLibrary_113 (fun hm3 => ?_)
            refine g_dup hK d1_readLibrary_116 rfl ?_
            refine g_getI hK zfin_0 (fa_0_1 hm3) q_132 d1_readLibrary_117 (fun hf7 => ?_)
            refine g_iconst hK d1_readLibrary_120 zki1 ?_
            refine g_iadd hK d1_readLibrary_121 (fun v2 hv2 => ?_)
            refine g_putI hK zfin_0 (fa_0_1 hm3) q_132 hv2 rfl (tyX0_ok 1 (by decide)) tyX0 tyX0_ok nmX0 d1_readLibrary_122 ?_
            refine g_ltM (fun m13 => ?_)
            refine g_goto hK (tgt := 157) (by decide) d1_readLibrary_125 ?_
            refine g_lv (lv2 := [(0, .ref (Z.2.2.1 + 99)), (3, .int (zi x3))]) [0, 1] rfl ?_
            exact p1_readLibrary_157 hcx a1 a2 ha1 ha2 k52 hk52 x3 m13 hx3
set_option maxRecDepth 20000 in
theorem l1_readLibrary_52 {K : zK} {Z : zZ} (hcx : zOk K Z b1_readLibrary RX1 5 (none) 8 246 0 0 ∧ ∀ x ∈ K.2.2.2.2.2.2.2.2.2.exceptionTable.toList, False) (a1 : Nat) (a2 : Int) (ha1 : zkd a1 = 100) (ha2 : zr a2) : ∀ (i9 : Nat) (x3 : Int) (μ : zM) (hx3 : zr x3), zG K Z (zΩ Z) (zF K Z (zΩ Z) zeM) 0 0 52 [(0, .ref (Z.2.2.1 + 99)), (3, .int (zi x3))] [] μ (zfx (f1_readLibrary_52 a1 a2) (fun _ _ => none) i9 x3 μ) := by
  intro i9
  induction i9 with
  | zero => intro x3 μ hx3; exact g_none
  | succ i9 ih => intro x3 μ hx3; exact p1_readLibrary_52 hcx a1 a2 ha1 ha2  (zfx (f1_readLibrary_52 a1 a2) (fun _ _ => none) i9) ih x3 μ hx3
set_option maxRecDepth 20000 in
theorem c1_readLibrary (l : Launch) (hst : l.stackTraces = false) (Z : zZ) (a1 : Nat) (a2 : Int) (μ : zM) (ha1 : zkd a1 = 100) (ha2 : zr a2) : ∀ x, f1_readLibrary a1 a2 μ = some x → zCt l Z (zΩ Z) y1_readLibrary (zws (.code y1_readLibrary b1_readLibrary 5 (none))) rm1_readLibrary [.ref (Z.2.2.1 + 99), .ref (Z.2.2.1 + a1), .int (zi a2)] μ (zeM x) := by
  intro x h
  refine zCt.of (enc := zeM) h (by decide) hst (Nat.le_of_ble_eq_true rfl) (fun K hK0 hex hl _ => ?_)
  subst hl
  have hcx : zOk K Z b1_readLibrary RX1 5 (none) 8 246 0 0 ∧ ∀ x ∈ K.2.2.2.2.2.2.2.2.2.exceptionTable.toList, False := ⟨hK0, hex⟩
  have hK := hcx.1
  show zG K Z (zΩ Z) (zF K Z (zΩ Z) zeM) 0 0 0 [(0, .ref (Z.2.2.1 + 99)), (1, .ref (Z.2.2.1 + a1)), (2, .int (zi a2))] [] μ (f1_readLibrary a1 a2 μ)
  unfold f1_readLibrary
  refine g_aload_n hK 0 rfl rfl d1_readLibrary_0 ?_
  refine g_aload_n hK 1 rfl rfl d1_readLibrary_1 ?_
  refine g_putR hK (r := a1) (w := 100) zfin_1 (fa_1_0 kc_99) q_151 (by decide +kernel) (by decide) ha1 (zkd_ne0 ha1 (by decide)) (fun _ => rfl) (fun _ => rfl) rfl (tyX1_ok 0 (by decide)) tyX1 tyX1_ok nmX1 d1_readLibrary_2 ?_
  refine g_ltM (fun m1 => ?_)
  refine g_aload_n hK 0 rfl rfl d1_readLibrary_5 ?_
  refine g_iload_n hK 2 rfl rfl d1_readLibrary_6 ?_
  refine g_aload_n hK 1 rfl rfl d1_readLibrary_7 ?_
  refine g_alen100 hK ha1 d1_readLibrary_8 (fun hl1 => ?_)
  refine g_mmin hK ha2 hl1 q_332 q_333 q_13 q_334 (by decide) (Nat.le_of_ble_eq_true rfl) d1_readLibrary_9 (fun v1 hv1 => ?_)
  refine g_putI hK zfin_1 (fa_1_1 kc_99) q_152 hv1 rfl (tyX1_ok 1 (by decide)) tyX1 tyX1_ok nmX1 d1_readLibrary_12 ?_
  refine g_ltM (fun m2 => ?_)
  refine g_aload_n hK 0 rfl rfl d1_readLibrary_15 ?_
  refine g_getM hK zfin_1 (fa_1_3 kc_99) q_154 (w := 0) (by decide) d1_readLibrary_16 (fun hm1 => ?_)
  refine g_iconst hK d1_readLibrary_19 zki0 ?_
  refine g_putI hK zfin_0 (fa_0_1 hm1) q_132 zc0 rfl (tyX0_ok 1 (by decide)) tyX0 tyX0_ok nmX0 d1_readLibrary_20 ?_
  refine g_ltM (fun m3 => ?_)
  refine g_aload_n hK 0 rfl rfl d1_readLibrary_23 ?_
  refine g_getM hK zfin_1 (fa_1_3 kc_99) q_154 (w := 0) (by decide) d1_readLibrary_24 (fun hm2 => ?_)
  refine g_iconst hK d1_readLibrary_27 zki0 ?_
  refine g_putZ hK zfin_0 (fa_0_2 hm2) q_134 rfl (tyX0_ok 2 (by decide)) tyX0 tyX0_ok nmX0 d1_readLibrary_28 ?_
  refine g_ltM (fun m4 => ?_)
  refine g_aload_n hK 0 rfl rfl d1_readLibrary_31 ?_
  refine g_iconst hK d1_readLibrary_32 zki0 ?_
  refine g_putI hK zfin_1 (fa_1_2 kc_99) q_153 zc0 rfl (tyX1_ok 2 (by decide)) tyX1 tyX1_ok nmX1 d1_readLibrary_33 ?_
  refine g_ltM (fun m5 => ?_)
  refine g_aload_n hK 0 rfl rfl d1_readLibrary_36 ?_
  refine g_iconst hK d1_readLibrary_37 zki0 ?_
  refine g_putI hK zfin_1 (fa_1_6 kc_99) q_158 zc0 rfl (tyX1_ok 6 (by decide)) tyX1 tyX1_ok nmX1 d1_readLibrary_38 ?_
  refine g_ltM (fun m6 => ?_)
  refine g_aload_n hK 0 rfl rfl d1_readLibrary_41 ?_
  refine g_iconst hK d1_readLibrary_42 zkim1 ?_
  refine g_putI hK zfin_1 (fa_1_7 kc_99) q_160 zcm1 rfl (tyX1_ok 7 (by decide)) tyX1 tyX1_ok nmX1 d1_readLibrary_43 ?_
  refine g_ltM (fun m7 => ?_)
  refine g_aload_n hK 0 rfl rfl d1_readLibrary_46 ?_
  refine g_callVcm hK (rm := rm1_skipBlanks) (cb := 0) (sb := 0) (As := []) (b := 99) (n := 0) (c1_skipBlanks K.2.1 hK.2.2.2.2.2.2.2.2.1 Z  m7 ) rfl (ci := 1) rfl (by decide) kc_99 q_335 q_337 qs_1_skipBlanks q_4 q_338 rfl (by decide +kernel) (by decide) (Nat.le_of_ble_eq_true rfl) (Nat.le_of_ble_eq_true rfl) (Nat.le_of_ble_eq_true rfl) rfl d1_readLibrary_47 (fun m8 hm8 => ?_)
  refine g_iconst hK d1_readLibrary_50 zki0 ?_
  refine g_istore_n hK (lv2 := [(0, .ref (Z.2.2.1 + 99)), (1, .ref (Z.2.2.1 + a1)), (2, .int (zi a2)), (3, .int (zi 0))]) [1, 2, 3, 0] rfl rfl (by decide) d1_readLibrary_51 ?_
  refine g_lv (lv2 := [(0, .ref (Z.2.2.1 + 99)), (3, .int (zi 0))]) [0, 3] rfl ?_
  exact l1_readLibrary_52 hcx a1 a2 ha1 ha2  zFu 0 m8 zc0
