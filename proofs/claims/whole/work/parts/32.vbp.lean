set_option maxRecDepth 20000 in
theorem l4_startOf_19 {K : zK} {Z : zZ} (hcx : zOk K Z b4_startOf RX4 6 (some .int) 3 82 0 0 ∧ ∀ x ∈ K.2.2.2.2.2.2.2.2.2.exceptionTable.toList, False) (a1 : Int) (μ : zM) (ha1 : zr a1) : ∀ (i9 : Nat) (x2 : Int) (x4 : Int) (x5 : Int) (hx2 : zr64 x2) (hx4 : zr x4) (hx5 : zr x5), zG K Z (zΩ Z) (zF K Z (zΩ Z) (zeP mkI μ)) 0 0 19 [(0, .ref (Z.2.2.1 + 200)), (2, .long (zl x2)), (4, .int (zi x4)), (5, .int (zi x5))] [] μ (zfx (f4_startOf_19 a1 μ) (fun _ _ _ => none) i9 x2 x4 x5) := by
  intro i9
  induction i9 with
  | zero => intro x2 x4 x5 hx2 hx4 hx5; exact g_none
  | succ i9 ih => intro x2 x4 x5 hx2 hx4 hx5; exact p4_startOf_19 hcx a1 μ ha1  (zfx (f4_startOf_19 a1 μ) (fun _ _ _ => none) i9) ih x2 x4 x5 hx2 hx4 hx5
set_option maxRecDepth 20000 in
theorem c4_startOf (l : Launch) (hst : l.stackTraces = false) (Z : zZ) (a1 : Int) (μ : zM) (ha1 : zr a1) : ∀ x, f4_startOf a1 μ = some x → zCt l Z (zΩ Z) y4_startOf (zws (.code y4_startOf b4_startOf 6 (some .int))) rm4_startOf [.ref (Z.2.2.1 + 200), .int (zi a1)] μ (zeP mkI μ x) := by
  intro x h
  refine zCt.of (enc := (zeP mkI μ)) h (by decide) hst (Nat.le_of_ble_eq_true rfl) (fun K hK0 hex hl _ => ?_)
  subst hl
  have hcx : zOk K Z b4_startOf RX4 6 (some .int) 3 82 0 0 ∧ ∀ x ∈ K.2.2.2.2.2.2.2.2.2.exceptionTable.toList, False := ⟨hK0, hex⟩
  have hK := hcx.1
  show zG K Z (zΩ Z) (zF K Z (zΩ Z) (zeP mkI μ)) 0 0 0 [(0, .ref (Z.2.2.1 + 200)), (1, .int (zi a1))] [] μ (f4_startOf a1 μ)
  unfold f4_startOf
  refine g_aload_n hK 0 rfl rfl d4_startOf_0 ?_
  refine g_getR hK zfin_4 (fa_4_4 kc_200) q_235 (r := 202) (by decide +kernel) d4_startOf_1 ?_
  refine g_iload_n hK 1 rfl rfl d4_startOf_4 ?_
  refine g_zald hK kc_202 d4_startOf_5 (fun _ hl1 => ?_)
  refine g_if_ne hK hl1 (tgt := 11) (by decide) d4_startOf_6 (fun _ => ?_) (fun _ => ?_)
  · refine g_lconst hK (v := 0) d4_startOf_11 rfl ?_
    refine g_lstore_n hK (lv2 := [(0, .ref (Z.2.2.1 + 200)), (1, .int (zi a1)), (2, .long (zl 0))]) [1, 2, 0] rfl rfl (by decide) d4_startOf_12 ?_
    refine g_iload_n hK 1 rfl rfl d4_startOf_13 ?_
    refine g_istore hK (lv2 := [(0, .ref (Z.2.2.1 + 200)), (1, .int (zi a1)), (2, .long (zl 0)), (4, .int (zi a1))]) [1, 2, 3, 0] rfl (by decide) d4_startOf_14 ?_
    refine g_iconst hK d4_startOf_16 zki0 ?_
    refine g_istore hK (lv2 := [(0, .ref (Z.2.2.1 + 200)), (1, .int (zi a1)), (2, .long (zl 0)), (4, .int (zi a1)), (5, .int (zi 0))]) [1, 2, 3, 4, 0] rfl (by decide) d4_startOf_17 ?_
    refine g_lv (lv2 := [(0, .ref (Z.2.2.1 + 200)), (2, .long (zl 0)), (4, .int (zi a1)), (5, .int (zi 0))]) [0, 2, 3, 4] rfl ?_
    exact l4_startOf_19 hcx a1 μ ha1  zFu 0 a1 0  zcL0 ha1 zc0
  · refine g_iconst hK d4_startOf_9 zkim1 ?_
    exact g_iret hK zcm1 rfl rfl d4_startOf_10
set_option maxRecDepth 20000 in
theorem c4_addToOrder (l : Launch) (hst : l.stackTraces = false) (Z : zZ) (a1 : Int) (μ : zM) (ha1 : zr a1) : ∀ x, f4_addToOrder a1 μ = some x → zCt l Z (zΩ Z) y4_addToOrder (zws (.code y4_addToOrder b4_addToOrder 2 (none))) rm4_addToOrder [.ref (Z.2.2.1 + 200), .int (zi a1)] μ (zeM x) := by
  intro x h
  refine zCt.of (enc := zeM) h (by decide) hst (Nat.le_of_ble_eq_true rfl) (fun K hK0 hex hl _ => ?_)
  subst hl
  have hcx : zOk K Z b4_addToOrder RX4 2 (none) 0 8 0 0 ∧ ∀ x ∈ K.2.2.2.2.2.2.2.2.2.exceptionTable.toList, False := ⟨hK0, hex⟩
  have hK := hcx.1
  show zG K Z (zΩ Z) (zF K Z (zΩ Z) zeM) 0 0 0 [(0, .ref (Z.2.2.1 + 200)), (1, .int (zi a1))] [] μ (f4_addToOrder a1 μ)
  unfold f4_addToOrder
  refine g_aload_n hK 0 rfl rfl d4_addToOrder_0 ?_
  refine g_getI hK zfin_4 (fa_4_10 kc_200) q_247 d4_addToOrder_1 (fun hf1 => ?_)
  refine g_bipush hK d4_addToOrder_4 zkb10 ?_
  refine g_icmp_ge hK hf1 zc10 (tgt := 29) (by decide) d4_addToOrder_6 (fun _ => ?_) (fun _ => ?_)
  · exact g_vret hK rfl rfl d4_addToOrder_29
  · refine g_aload_n hK 0 rfl rfl d4_addToOrder_9 ?_
    refine g_getR hK zfin_4 (fa_4_9 kc_200) q_245 (r := 206) (by decide +kernel) d4_addToOrder_10 ?_
    refine g_aload_n hK 0 rfl rfl d4_addToOrder_13 ?_
    refine g_getI hK zfin_4 (fa_4_10 kc_200) q_247 d4_addToOrder_14 (fun hf2 => ?_)
    refine g_iload_n hK 1 rfl rfl d4_addToOrder_17 ?_
    refine g_iast hK ha1 kc_206 d4_addToOrder_18 (fun _ => ?_)
    refine g_ltM (fun m1 => ?_)
    refine g_aload_n hK 0 rfl rfl d4_addToOrder_19 ?_
    refine g_dup hK d4_addToOrder_20 rfl ?_
    refine g_getI hK zfin_4 (fa_4_10 kc_200) q_247 d4_addToOrder_21 (fun hf3 => ?_)
    refine g_iconst hK d4_addToOrder_24 zki1 ?_
    refine g_iadd hK d4_addToOrder_25 (fun v1 hv1 => ?_)
    refine g_putI hK zfin_4 (fa_4_10 kc_200) q_247 hv1 rfl (tyX4_ok 10 (by decide)) tyX4 tyX4_ok nmX4 d4_addToOrder_26 ?_
    refine g_ltM (fun m2 => ?_)
    exact g_vret hK rfl rfl d4_addToOrder_29
set_option maxRecDepth 20000 in
theorem p4_arrangeOrder_102 {K : zK} {Z : zZ} (hcx : zOk K Z b4_arrangeOrder RX4 5 (none) 1 29 0 0 ∧ ∀ x ∈ K.2.2.2.2.2.2.2.2.2.exceptionTable.toList, False) (a1 : Int) (ha1 : zr a1) (μ : zM) : zG K Z (zΩ Z) (zF K Z (zΩ Z) zeM) 0 0 102 [(0, .ref (Z.2.2.1 + 200))] [] μ (f4_arrangeOrder_102 a1 μ) := by
  obtain ⟨hK, hex⟩ := id hcx
  unfold f4_arrangeOrder_102
  refine g_aload_n hK 0 rfl rfl d4_arrangeOrder_102 ?_
  refine g_iconst hK d4_arrangeOrder_103 zki0 ?_
  refine g_callVco hK (mk := mkZ) (rm := rm4_isLive) (cb := 0) (sb := 0) (As := [.int (zi 0)]) (b := 200) (n := 1) (c4_isLive K.2.1 hK.2.2.2.2.2.2.2.2.1 Z 0 μ zc0) rfl (ci := 4) rfl (by decide) kc_200 q_577 q_578 q_579 q_6 q_580 rfl (by decide +kernel) (by decide) (Nat.le_of_ble_eq_true rfl) (Nat.le_of_ble_eq_true rfl) (Nat.le_of_ble_eq_true rfl) rfl d4_arrangeOrder_104 (fun r2 hr2 hpr2 => ?_)
  refine g_if_eq hK (zb_r r2) (tgt := 115) (by decide) d4_arrangeOrder_107 (fun _ => ?_) (fun _ => ?_)
  · exact g_vret hK rfl rfl d4_arrangeOrder_115
  · refine g_aload_n hK 0 rfl rfl d4_arrangeOrder_110 ?_
    refine g_iconst hK d4_arrangeOrder_111 zki0 ?_
    refine g_callVcm hK (rm := rm4_addToOrder) (cb := 0) (sb := 0) (As := [.int (zi 0)]) (b := 200) (n := 1) (c4_addToOrder K.2.1 hK.2.2.2.2.2.2.2.2.1 Z 0 μ zc0) rfl (ci := 4) rfl (by decide) kc_200 q_573 q_575 qs_4_addToOrder q_6 q_576 rfl (by decide +kernel) (by decide) (Nat.le_of_ble_eq_true rfl) (Nat.le_of_ble_eq_true rfl) (Nat.le_of_ble_eq_true rfl) rfl d4_arrangeOrder_112 (fun m4 hm4 => ?_)
    exact g_vret hK rfl rfl d4_arrangeOrder_115
set_option maxRecDepth 20000 in
theorem p4_arrangeOrder_13 {K : zK} {Z : zZ} (hcx : zOk K Z b4_arrangeOrder RX4 5 (none) 1 29 0 0 ∧ ∀ x ∈ K.2.2.2.2.2.2.2.2.2.exceptionTable.toList, False) (a1 : Int) (ha1 : zr a1) (k13 : Int → Int → zM → Option zM) (hk13 : ∀ (x2 : Int) (x3 : Int) (μ : zM) (hx2 : zr x2) (hx3 : zr x3), zG K Z (zΩ Z) (zF K Z (zΩ Z) zeM) 0 0 13 [(0, .ref (Z.2.2.1 + 200)), (2, .int (zi x2)), (3, .int (zi x3))] [] μ (k13 x2 x3 μ)) (x2 : Int) (x3 : Int) (μ : zM) (hx2 : zr x2) (hx3 : zr x3) : zG K Z (zΩ Z) (zF K Z (zΩ Z) zeM) 0 0 13 [(0, .ref (Z.2.2.1 + 200)), (2, .int (zi x2)), (3, .int (zi x3))] [] μ (f4_arrangeOrder_13 a1 k13 x2 x3 μ) := by
  obtain ⟨hK, hex⟩ := id hcx
  unfold f4_arrangeOrder_13
  refine g_iload_n hK 2 rfl rfl d4_arrangeOrder_13 ?_
  refine g_aload_n hK 0 rfl rfl d4_arrangeOrder_14 ?_
  refine g_getM hK zfin_4 (fa_4_0 kc_200) q_228 (w := 2) (by decide) d4_arrangeOrder_15 (fun hm1 => ?_)
  refine g_getI hK zfin_2 (fa_2_2 hm1) q_52 d4_arrangeOrder_18 (fun hf1 => ?_)
  refine g_icmp_ge hK hx3 hf1 (tgt := 72) (by decide) d4_arrangeOrder_21 (fun _ => ?_) (fun _ => ?_)
  · refine g_goto hK (tgt := 102) (by decide) d4_arrangeOrder_72 ?_
    refine g_lv (lv2 := [(0, .ref (Z.2.2.1 + 200))]) [0] rfl ?_
    exact p4_arrangeOrder_102 hcx a1 ha1   μ 
  · refine g_aload_n hK 0 rfl rfl d4_arrangeOrder_24 ?_
    refine g_getM hK zfin_4 (fa_4_0 kc_200) q_228 (w := 2) (by decide) d4_arrangeOrder_25 (fun hm2 => ?_)
    refine g_getR hK zfin_2 (fa_2_4 hm2) q_58 (pt_2_fields hm2) d4_arrangeOrder_28 ?_
    refine g_iload_n hK 2 rfl rfl d4_arrangeOrder_31 ?_
    refine g_iald hK (pt_2_fields_k hm2) d4_arrangeOrder_32 (fun _ hl1 => ?_)
    refine g_ltI hl1 (fun v3 hv3 => ?_)
    refine g_istore hK (lv2 := [(0, .ref (Z.2.2.1 + 200)), (2, .int (zi x2)), (3, .int (zi x3)), (4, .int (zi v3))]) [1, 2, 3, 0] rfl (by decide) d4_arrangeOrder_33 ?_
    refine g_aload_n hK 0 rfl rfl d4_arrangeOrder_35 ?_
    refine g_getR hK zfin_4 (fa_4_4 kc_200) q_235 (r := 202) (by decide +kernel) d4_arrangeOrder_36 ?_
    refine g_iload_n hK 2 rfl rfl d4_arrangeOrder_39 ?_
    refine g_zald hK kc_202 d4_arrangeOrder_40 (fun _ hl2 => ?_)
    refine g_if_eq hK hl2 (tgt := 66) (by decide) d4_arrangeOrder_41 (fun _ => ?_) (fun _ => ?_)
    · refine g_iinc hK (lv2 := fun v4 => [(0, .ref (Z.2.2.1 + 200)), (2, .int (zi x2)), (3, .int (zi v4)), (4, .int (zi v3))]) 2 rfl [1, 2, 0, 3] (fun _ => rfl) (by decide) d4_arrangeOrder_66 (fun v4 hv4 => ?_)
      refine g_goto hK (tgt := 13) (by decide) d4_arrangeOrder_69 ?_
      refine g_lv (lv2 := [(0, .ref (Z.2.2.1 + 200)), (2, .int (zi x2)), (3, .int (zi v4))]) [0, 1, 2] rfl ?_
      exact hk13 x2 v4 μ hx2 hv4
    · refine g_iload_n hK 1 rfl rfl d4_arrangeOrder_44 ?_
      refine g_iload hK 3 rfl d4_arrangeOrder_45 ?_
      refine g_ishr hK d4_arrangeOrder_47 (fun v5 hv5 => ?_)
      refine g_iconst hK d4_arrangeOrder_48 zki1 ?_
      refine g_iand hK d4_arrangeOrder_49 (fun v6 hv6 => ?_)
      refine g_if_ne hK hv6 (tgt := 66) (by decide) d4_arrangeOrder_50 (fun _ => ?_) (fun _ => ?_)
      · refine g_iinc hK (lv2 := fun v7 => [(0, .ref (Z.2.2.1 + 200)), (2, .int (zi x2)), (3, .int (zi v7)), (4, .int (zi v3))]) 2 rfl [1, 2, 0, 3] (fun _ => rfl) (by decide) d4_arrangeOrder_66 (fun v7 hv7 => ?_)
        refine g_goto hK (tgt := 13) (by decide) d4_arrangeOrder_69 ?_
        refine g_lv (lv2 := [(0, .ref (Z.2.2.1 + 200)), (2, .int (zi x2)), (3, .int (zi v7))]) [0, 1, 2] rfl ?_
        exact hk13 x2 v7 μ hx2 hv7
      · refine g_iload_n hK 1 rfl rfl d4_arrangeOrder_53 ?_
        refine g_iconst hK d4_arrangeOrder_54 zki1 ?_
        refine g_iload hK 3 rfl d4_arrangeOrder_55 ?_
        refine g_ishl hK d4_arrangeOrder_57 (fun v8 hv8 => ?_)
        refine g_ior hK d4_arrangeOrder_58 (fun v9 hv9 => ?_)
        refine g_istore_n hK (lv2 := [(0, .ref (Z.2.2.1 + 200)), (2, .int (zi v9)), (3, .int (zi x3)), (4, .int (zi v3))]) [1, 0, 2, 3] rfl rfl (by decide) d4_arrangeOrder_59 ?_
        refine g_aload_n hK 0 rfl rfl d4_arrangeOrder_60 ?_
        refine g_iload hK 3 rfl d4_arrangeOrder_61 ?_
        refine g_callVcm hK (rm := rm4_addToOrder) (cb := 0) (sb := 0) (As := [.int (zi v3)]) (b := 200) (n := 1) (c4_addToOrder K.2.1 hK.2.2.2.2.2.2.2.2.1 Z v3 μ hv3) rfl (ci := 4) rfl (by decide) kc_200 q_573 q_575 qs_4_addToOrder q_6 q_576 rfl (by decide +kernel) (by decide) (Nat.le_of_ble_eq_true rfl) (Nat.le_of_ble_eq_true rfl) (Nat.le_of_ble_eq_true rfl) rfl d4_arrangeOrder_63 (fun m3 hm3 => ?_)
        refine g_iinc hK (lv2 := fun v10 => [(0, .ref (Z.2.2.1 + 200)), (2, .int (zi v9)), (3, .int (zi v10)), (4, .int (zi v3))]) 2 rfl [1, 2, 0, 3] (fun _ => rfl) (by decide) d4_arrangeOrder_66 (fun v10 hv10 => ?_)
        refine g_goto hK (tgt := 13) (by decide) d4_arrangeOrder_69 ?_
        refine g_lv (lv2 := [(0, .ref (Z.2.2.1 + 200)), (2, .int (zi v9)), (3, .int (zi v10))]) [0, 1, 2] rfl ?_
        exact hk13 v9 v10 m3 hv9 hv10
set_option maxRecDepth 20000 in
theorem l4_arrangeOrder_13 {K : zK} {Z : zZ} (hcx : zOk K Z b4_arrangeOrder RX4 5 (none) 1 29 0 0 ∧ ∀ x ∈ K.2.2.2.2.2.2.2.2.2.exceptionTable.toList, False) (a1 : Int) (ha1 : zr a1) : ∀ (i9 : Nat) (x2 : Int) (x3 : Int) (μ : zM) (hx2 : zr x2) (hx3 : zr x3), zG K Z (zΩ Z) (zF K Z (zΩ Z) zeM) 0 0 13 [(0, .ref (Z.2.2.1 + 200)), (2, .int (zi x2)), (3, .int (zi x3))] [] μ (zfx (f4_arrangeOrder_13 a1) (fun _ _ _ => none) i9 x2 x3 μ) := by
  intro i9
  induction i9 with
  | zero => intro x2 x3 μ hx2 hx3; exact g_none
  | succ i9 ih => intro x2 x3 μ hx2 hx3; exact p4_arrangeOrder_13 hcx a1 ha1  (zfx (f4_arrangeOrder_13 a1) (fun _ _ _ => none) i9) ih x2 x3 μ hx2 hx3
set_option maxRecDepth 20000 in
theorem p4_arrangeOrder_77 {K : zK} {Z : zZ} (hcx : zOk K Z b4_arrangeOrder RX4 5 (none) 1 29 0 0 ∧ ∀ x ∈ K.2.2.2.2.2.2.2.2.2.exceptionTable.toList, False) (a1 : Int) (ha1 : zr a1) (k77 : Int → zM → Option zM) (hk77 : ∀ (x3 : Int) (μ : zM) (hx3 : zr x3), zG K Z (zΩ Z) (zF K Z (zΩ Z) zeM) 0 0 77 [(0, .ref (Z.2.2.1 + 200)), (3, .int (zi x3))] [] μ (k77 x3 μ)) (x3 : Int) (μ : zM) (hx3 : zr x3) : zG K Z (zΩ Z) (zF K Z (zΩ Z) zeM) 0 0 77 [(0, .ref (Z.2.2.1 + 200)), (3, .int (zi x3))] [] μ (f4_arrangeOrder_77 a1 k77 x3 μ) := by
  obtain ⟨hK, hex⟩ := id hcx
  unfold f4_arrangeOrder_77
  refine g_iload_n hK 1 rfl rfl d4_arrangeOrder_77 ?_
  refine g_bipush hK d4_arrangeOrder_78 zkb10 ?_
  refine g_icmp_ge hK hx3 zc10 (tgt := 102) (by decide) d4_arrangeOrder_80 (fun _ => ?_) (fun _ => ?_)
  · refine g_lv (lv2 := [(0, .ref (Z.2.2.1 + 200))]) [0] rfl ?_
    exact p4_arrangeOrder_102 hcx a1 ha1   μ 
  · refine g_aload_n hK 0 rfl rfl d4_arrangeOrder_83 ?_
    refine g_iload_n hK 1 rfl rfl d4_arrangeOrder_84 ?_
    refine g_callVco hK (mk := mkZ) (rm := rm4_isLive) (cb := 0) (sb := 0) (As := [.int (zi x3)]) (b := 200) (n := 1) (c4_isLive K.2.1 hK.2.2.2.2.2.2.2.2.1 Z x3 μ hx3) rfl (ci := 4) rfl (by decide) kc_200 q_577 q_578 q_579 q_6 q_580 rfl (by decide +kernel) (by decide) (Nat.le_of_ble_eq_true rfl) (Nat.le_of_ble_eq_true rfl) (Nat.le_of_ble_eq_true rfl) rfl d4_arrangeOrder_85 (fun r1 hr1 hpr1 => ?_)
    refine g_if_eq hK (zb_r r1) (tgt := 96) (by decide) d4_arrangeOrder_88 (fun _ => ?_) (fun _ => ?_)
    · refine g_iinc hK (lv2 := fun v1 => [(0, .ref (Z.2.2.1 + 200)), (3, .int (zi v1))]) 1 rfl [1, 0] (fun _ => rfl) (by decide) d4_arrangeOrder_96 (fun v1 hv1 => ?_)
      refine g_goto hK (tgt := 77) (by decide) d4_arrangeOrder_99 ?_
      exact hk77 v1 μ hv1
    · refine g_aload_n hK 0 rfl rfl d4_arrangeOrder_91 ?_
      refine g_iload_n hK 1 rfl rfl d4_arrangeOrder_92 ?_
      refine g_callVcm hK (rm := rm4_addToOrder) (cb := 0) (sb := 0) (As := [.int (zi x3)]) (b := 200) (n := 1) (c4_addToOrder K.2.1 hK.2.2.2.2.2.2.2.2.1 Z x3 μ hx3) rfl (ci := 4) rfl (by decide) kc_200 q_573 q_575 qs_4_addToOrder q_6 q_576 rfl (by decide +kernel) (by decide) (Nat.le_of_ble_eq_true rfl) (Nat.le_of_ble_eq_true rfl) (Nat.le_of_ble_eq_true rfl) rfl d4_arrangeOrder_93 (fun m2 hm2 => ?_)
      refine g_iinc hK (lv2 := fun v2 => [(0, .ref (Z.2.2.1 + 200)), (3, .int (zi v2))]) 1 rfl [1, 0] (fun _ => rfl) (by decide) d4_arrangeOrder_96 (fun v2 hv2 => ?_)
      refine g_goto hK (tgt := 77) (by decide) d4_arrangeOrder_99 ?_
      exact hk77 v2 m2 hv2
set_option maxRecDepth 20000 in
theorem l4_arrangeOrder_77 {K : zK} {Z : zZ} (hcx : zOk K Z b4_arrangeOrder RX4 5 (none) 1 29 0 0 ∧ ∀ x ∈ K.2.2.2.2.2.2.2.2.2.exceptionTable.toList, False) (a1 : Int) (ha1 : zr a1) : ∀ (i9 : Nat) (x3 : Int) (μ : zM) (hx3 : zr x3), zG K Z (zΩ Z) (zF K Z (zΩ Z) zeM) 0 0 77 [(0, .ref (Z.2.2.1 + 200)), (3, .int (zi x3))] [] μ (zfx (f4_arrangeOrder_77 a1) (fun _ _ => none) i9 x3 μ) := by
  intro i9
  induction i9 with
  | zero => intro x3 μ hx3; exact g_none
  | succ i9 ih => intro x3 μ hx3; exact p4_arrangeOrder_77 hcx a1 ha1  (zfx (f4_arrangeOrder_77 a1) (fun _ _ => none) i9) ih x3 μ hx3
set_option maxRecDepth 20000 in
theorem c4_arrangeOrder (l : Launch) (hst : l.stackTraces = false) (Z : zZ) (a1 : Int) (μ : zM) (ha1 : zr a1) : ∀ x, f4_arrangeOrder a1 μ = some x → zCt l Z (zΩ Z) y4_arrangeOrder (zws (.code y4_arrangeOrder b4_arrangeOrder 5 (none))) rm4_arrangeOrder [.ref (Z.2.2.1 + 200), .int (zi a1)] μ (zeM x) := by
  intro x h
  refine zCt.of (enc := zeM) h (by decide) hst (Nat.le_of_ble_eq_true rfl) (fun K hK0 hex hl _ => ?_)
  subst hl
  have hcx : zOk K Z b4_arrangeOrder RX4 5 (none) 1 29 0 0 ∧ ∀ x ∈ K.2.2.2.2.2.2.2.2.2.exceptionTable.toList, False := ⟨hK0, hex⟩
  have hK := hcx.1
  show zG K Z (zΩ Z) (zF K Z (zΩ Z) zeM) 0 0 0 [(0, .ref (Z.2.2.1 + 200)), (1, .int (zi a1))] [] μ (f4_arrangeOrder a1 μ)
  unfold f4_arrangeOrder
  refine g_aload_n hK 0 rfl rfl d4_arrangeOrder_0 ?_
  refine g_iconst hK d4_arrangeOrder_1 zki0 ?_
  refine g_putI hK zfin_4 (fa_4_10 kc_200) q_247 zc0 rfl (tyX4_ok 10 (by decide)) tyX4 tyX4_ok nmX4 d4_arrangeOrder_2 ?_
  refine g_ltM (fun m1 => ?_)
  refine g_iconst hK d4_arrangeOrder_5 zki1 ?_
  refine g_istore_n hK (lv2 := [(0, .ref (Z.2.2.1 + 200)), (1, .int (zi a1)), (2, .int (zi 1))]) [1, 2, 0] rfl rfl (by decide) d4_arrangeOrder_6 ?_
  refine g_iload_n hK 1 rfl rfl d4_arrangeOrder_7 ?_
  refine g_if_eq hK ha1 (tgt := 75) (by decide) d4_arrangeOrder_8 (fun _ => ?_) (fun _ => ?_)
  · refine g_iconst hK d4_arrangeOrder_75 zki1 ?_
    refine g_istore_n hK (lv2 := [(0, .ref (Z.2.2.1 + 200)), (1, .int (zi a1)), (2, .int (zi 1)), (3, .int (zi 1))]) [1, 2, 3, 0] rfl rfl (by decide) d4_arrangeOrder_76 ?_
    refine g_lv (lv2 := [(0, .ref (Z.2.2.1 + 200)), (3, .int (zi 1))]) [0, 3] rfl ?_
    exact l4_arrangeOrder_77 hcx a1 ha1  zFu 1 m1 zc1
  · refine g_iconst hK d4_arrangeOrder_11 zki0 ?_
    refine g_istore_n hK (lv2 := [(0, .ref (Z.2.2.1 + 200)), (1, .int (zi a1)), (2, .int (zi 1)), (3, .int (zi 0))]) [1, 2, 3, 0] rfl rfl (by decide) d4_arrangeOrder_12 ?_
    refine g_lv (lv2 := [(0, .ref (Z.2.2.1 + 200)), (2, .int (zi 1)), (3, .int (zi 0))]) [0, 2, 3] rfl ?_
    exact l4_arrangeOrder_13 hcx a1 ha1  zFu 1 0 m1 zc1 zc0
set_option maxRecDepth 20000 in
theorem p4_placeOf_2 {K : zK} {Z : zZ} (hcx : zOk K Z b4_placeOf RX4 3 (some .int) 0 8 0 0 ∧ ∀ x ∈ K.2.2.2.2.2.2.2.2.2.exceptionTable.toList, False) (a1 : Int) (μ : zM) (ha1 : zr a1) (k2 : Int → Option Int) (hk2 : ∀ (x2 : Int) (hx2 : zr x2), zG K Z (zΩ Z) (zF K Z (zΩ Z) (zeP mkI μ)) 0 0 2 [(0, .ref (Z.2.2.1 + 200)), (1, .int (zi a1)), (2, .int (zi x2))] [] μ (k2 x2)) (x2 : Int) (hx2 : zr x2) : zG K Z (zΩ Z) (zF K Z (zΩ Z) (zeP mkI μ)) 0 0 2 [(0, .ref (Z.2.2.1 + 200)), (1, .int (zi a1)), (2, .int (zi x2))] [] μ (f4_placeOf_2 a1 μ k2 x2) := by
  obtain ⟨hK, hex⟩ := id hcx
  unfold f4_placeOf_2
  refine g_iload_n hK 2 rfl rfl d4_placeOf_2 ?_
  refine g_aload_n hK 0 rfl rfl d4_placeOf_3 ?_
  refine g_getI hK zfin_4 (fa_4_10 kc_200) q_247 d4_placeOf_4 (fun hf1 => ?_)
  refine g_icmp_ge hK hx2 hf1 (tgt := 28) (by decide) d4_placeOf_7 (fun _ => ?_) (fun _ => ?_)
  · refine g_iconst hK d4_placeOf_28 zkim1 ?_
    exact g_iret hK zcm1 rfl rfl d4_placeOf_29
  · refine g_aload_n hK 0 rfl rfl d4_placeOf_10 ?_
    refine g_getR hK zfin_4 (fa_4_9 kc_200) q_245 (r := 206) (by decide +kernel) d4_placeOf_11 ?_
    refine g_iload_n hK 2 rfl rfl d4_placeOf_14 ?_
    refine g_iald hK kc_206 d4_placeOf_15 (fun _ hl1 => ?_)
    refine g_iload_n hK 1 rfl rfl d4_placeOf_16 ?_
    refine g_icmp_ne hK hl1 ha1 (tgt := 22) (by decide) d4_placeOf_17 (fun _ => ?_) (fun _ => ?_)
    · refine g_iinc hK (lv2 := fun v1 => [(0, .ref (Z.2.2.1 + 200)), (1, .int (zi a1)), (2, .int (zi v1))]) 2 rfl [1, 2, 0] (fun _ => rfl) (by decide) d4_placeOf_22 (fun v1 hv1 => ?_)
      refine g_goto hK (tgt := 2) (by decide) d4_placeOf_25 ?_
      exact hk2 v1  hv1
    · refine g_iload_n hK 2 rfl rfl d4_placeOf_20 ?_
      exact g_iret hK hx2 rfl rfl d4_placeOf_21
set_option maxRecDepth 20000 in
theorem l4_placeOf_2 {K : zK} {Z : zZ} (hcx : zOk K Z b4_placeOf RX4 3 (some .int) 0 8 0 0 ∧ ∀ x ∈ K.2.2.2.2.2.2.2.2.2.exceptionTable.toList, False) (a1 : Int) (μ : zM) (ha1 : zr a1) : ∀ (i9 : Nat) (x2 : Int) (hx2 : zr x2), zG K Z (zΩ Z) (zF K Z (zΩ Z) (zeP mkI μ)) 0 0 2 [(0, .ref (Z.2.2.1 + 200)), (1, .int (zi a1)), (2, .int (zi x2))] [] μ (zfx (f4_placeOf_2 a1 μ) (fun _ => none) i9 x2) := by
  intro i9
  induction i9 with
  | zero => intro x2 hx2; exact g_none
  | succ i9 ih => intro x2 hx2; exact p4_placeOf_2 hcx a1 μ ha1  (zfx (f4_placeOf_2 a1 μ) (fun _ => none) i9) ih x2 hx2
set_option maxRecDepth 20000 in
theorem c4_placeOf (l : Launch) (hst : l.stackTraces = false) (Z : zZ) (a1 : Int) (μ : zM) (ha1 : zr a1) : ∀ x, f4_placeOf a1 μ = some x → zCt l Z (zΩ Z) y4_placeOf (zws (.code y4_placeOf b4_placeOf 3 (some .int))) rm4_placeOf [.ref (Z.2.2.1 + 200), .int (zi a1)] μ (zeP mkI μ x) := by
  intro x h
  refine zCt.of (enc := (zeP mkI μ)) h (by decide) hst (Nat.le_of_ble_eq_true rfl) (fun K hK0 hex hl _ => ?_)
  subst hl
  have hcx : zOk K Z b4_placeOf RX4 3 (some .int) 0 8 0 0 ∧ ∀ x ∈ K.2.2.2.2.2.2.2.2.2.exceptionTable.toList, False := ⟨hK0, hex⟩
  have hK := hcx.1
  show zG K Z (zΩ Z) (zF K Z (zΩ Z) (zeP mkI μ)) 0 0 0 [(0, .ref (Z.2.2.1 + 200)), (1, .int (zi a1))] [] μ (f4_placeOf a1 μ)
  unfold f4_placeOf
  refine g_iconst hK d4_placeOf_0 zki0 ?_
  refine g_istore_n hK (lv2 := [(0, .ref (Z.2.2.1 + 200)), (1, .int (zi a1)), (2, .int (zi 0))]) [1, 2, 0] rfl rfl (by decide) d4_placeOf_1 ?_
  exact l4_placeOf_2 hcx a1 μ ha1  zFu 0  zc0
set_option maxRecDepth 20000 in
theorem p4_reasonNotLive_30 {K : zK} {Z : zZ} (hcx : zOk K Z b4_reasonNotLive RX4 5 (some .int) 1 29 0 0 ∧ ∀ x ∈ K.2.2.2.2.2.2.2.2.2.exceptionTable.toList, False) (a1 : Int) (μ : zM) (ha1 : zr a1) (k30 : Int → Int → Option Int) (hk30 : ∀ (x2 : Int) (x3 : Int) (hx2 : zr x2) (hx3 : zr x3), zG K Z (zΩ Z) (zF K Z (zΩ Z) (zeP mkI μ)) 0 0 30 [(0, .ref (Z.2.2.1 + 200)), (1, .int (zi a1)), (2, .int (zi x2)), (3, .int (zi x3))] [] μ (k30 x2 x3)) (x2 : Int) (x3 : Int) (hx2 : zr x2) (hx3 : zr x3) : zG K Z (zΩ Z) (zF K Z (zΩ Z) (zeP mkI μ)) 0 0 30 [(0, .ref (Z.2.2.1 + 200)), (1, .int (zi a1)), (2, .int (zi x2)), (3, .int (zi x3))] [] μ (f4_reasonNotLive_30 a1 μ k30 x2 x3) := by
  obtain ⟨hK, hex⟩ := id hcx
  unfold f4_reasonNotLive_30
  refine g_iload_n hK 3 rfl rfl d4_reasonNotLive_30 ?_
  refine g_aload_n hK 0 rfl rfl d4_reasonNotLive_31 ?_
  refine g_getM hK zfin_4 (fa_4_0 kc_200) q_228 (w := 2) (by decide) d4_reasonNotLive_32 (fun hm2 => ?_)
  refine g_getI hK zfin_2 (fa_2_2 hm2) q_52 d4_reasonNotLive_35 (fun hf2 => ?_)
  refine g_icmp_ge hK hx3 hf2 (tgt := 108) (by decide) d4_reasonNotLive_38 (fun _ => ?_) (fun _ => ?_)
  · refine g_iload_n hK 2 rfl rfl d4_reasonNotLive_108 ?_
    refine g_if_eq hK hx2 (tgt := 116) (by decide) d4_reasonNotLive_109 (fun _ => ?_) (fun _ => ?_)
    · refine g_iconst hK d4_reasonNotLive_116 zki4 ?_
      exact g_iret hK zc4 rfl rfl d4_reasonNotLive_117
    · refine g_iconst hK d4_reasonNotLive_112 zki3 ?_
      refine g_goto hK (tgt := 117) (by decide) d4_reasonNotLive_113 ?_
      exact g_iret hK zc3 rfl rfl d4_reasonNotLive_117
  · refine g_aload_n hK 0 rfl rfl d4_reasonNotLive_41 ?_
    refine g_getM hK zfin_4 (fa_4_0 kc_200) q_228 (w := 2) (by decide) d4_reasonNotLive_42 (fun hm3 => ?_)
    refine g_getR hK zfin_2 (fa_2_7 hm3) q_70 (pt_2_parents hm3) d4_reasonNotLive_45 ?_
    refine g_iload_n hK 3 rfl rfl d4_reasonNotLive_48 ?_
    refine g_iald hK (pt_2_parents_k hm3) d4_reasonNotLive_49 (fun _ hl1 => ?_)
    refine g_ltI hl1 (fun v3 hv3 => ?_)
    refine g_istore hK (lv2 := [(0, .ref (Z.2.2.1 + 200)), (1, .int (zi a1)), (2, .int (zi x2)), (3, .int (zi x3)), (4, .int (zi v3))]) [1, 2, 3, 4, 0] rfl (by decide) d4_reasonNotLive_50 ?_
    refine g_aload_n hK 0 rfl rfl d4_reasonNotLive_52 ?_
    refine g_getM hK zfin_4 (fa_4_0 kc_200) q_228 (w := 2) (by decide) d4_reasonNotLive_53 (fun hm4 => ?_)
    refine g_getR hK zfin_2 (fa_2_4 hm4) q_58 (pt_2_fields hm4) d4_reasonNotLive_56 ?_
    refine g_iload_n hK 3 rfl rfl d4_reasonNotLive_59 ?_
    refine g_iald hK (pt_2_fields_k hm4) d4_reasonNotLive_60 (fun _ hl2 => ?_)
    refine g_iload_n hK 1 rfl rfl d4_reasonNotLive_61 ?_
    refine g_icmp_ne hK hl2 ha1 (tgt := 102) (by decide) d4_reasonNotLive_62 (fun _ => ?_) (fun _ => ?_)
    · refine g_iinc hK (lv2 := fun v4 => [(0, .ref (Z.2.2.1 + 200)), (1, .int (zi a1)), (2, .int (zi x2)), (3, .int (zi v4)), (4, .int (zi v3))]) 3 rfl [1, 2, 3, 0, 4] (fun _ => rfl) (by decide) d4_reasonNotLive_102 (fun v4 hv4 => ?_)
      refine g_goto hK (tgt := 30) (by decide) d4_reasonNotLive_105 ?_
      refine g_lv (lv2 := [(0, .ref (Z.2.2.1 + 200)), (1, .int (zi a1)), (2, .int (zi x2)), (3, .int (zi v4))]) [0, 1, 2, 3] rfl ?_
      exact hk30 x2 v4  hx2 hv4
    · refine g_iload hK 4 rfl d4_reasonNotLive_65 ?_
      refine g_iconst hK d4_reasonNotLive_67 zkim1 ?_
      refine g_icmp_eq hK hv3 zcm1 (tgt := 102) (by decide) d4_reasonNotLive_68 (fun _ => ?_) (fun _ => ?_)
      · refine g_iinc hK (lv2 := fun v5 => [(0, .ref (Z.2.2.1 + 200)), (1, .int (zi a1)), (2, .int (zi x2)), (3, .int (zi v5)), (4, .int (zi v3))]) 3 rfl [1, 2, 3, 0, 4] (fun _ => rfl) (by decide) d4_reasonNotLive_102 (fun v5 hv5 => ?_)
        refine g_goto hK (tgt := 30) (by decide) d4_reasonNotLive_105 ?_
        refine g_lv (lv2 := [(0, .ref (Z.2.2.1 + 200)), (1, .int (zi a1)), (2, .int (zi x2)), (3, .int (zi v5))]) [0, 1, 2, 3] rfl ?_
        exact hk30 x2 v5  hx2 hv5
      · refine g_aload_n hK 0 rfl rfl d4_reasonNotLive_71 ?_
        refine g_getR hK zfin_4 (fa_4_4 kc_200) q_235 (r := 202) (by decide +kernel) d4_reasonNotLive_72 ?_
        refine g_iload hK 4 rfl d4_reasonNotLive_75 ?_
        refine g_zald hK kc_202 d4_reasonNotLive_77 (fun _ hl3 => ?_)
        refine g_if_eq hK hl3 (tgt := 102) (by decide) d4_reasonNotLive_78 (fun _ => ?_) (fun _ => ?_)
        · refine g_iinc hK (lv2 := fun v6 => [(0, .ref (Z.2.2.1 + 200)), (1, .int (zi a1)), (2, .int (zi x2)), (3, .int (zi v6)), (4, .int (zi v3))]) 3 rfl [1, 2, 3, 0, 4] (fun _ => rfl) (by decide) d4_reasonNotLive_102 (fun v6 hv6 => ?_)
          refine g_goto hK (tgt := 30) (by decide) d4_reasonNotLive_105 ?_
          refine g_lv (lv2 := [(0, .ref (Z.2.2.1 + 200)), (1, .int (zi a1)), (2, .int (zi x2)), (3, .int (zi v6))]) [0, 1, 2, 3] rfl ?_
          exact hk30 x2 v6  hx2 hv6
        · refine g_aload_n hK 0 rfl rfl d4_reasonNotLive_81 ?_
          refine g_aload_n hK 0 rfl rfl d4_reasonNotLive_82 ?_
          refine g_getM hK zfin_4 (fa_4_0 kc_200) q_228 (w := 2) (by decide) d4_reasonNotLive_83 (fun hm5 => ?_)
          refine g_getR hK zfin_2 (fa_2_4 hm5) q_58 (pt_2_fields hm5) d4_reasonNotLive_86 ?_
          refine g_iload hK 4 rfl d4_reasonNotLive_89 ?_
          refine g_iald hK (pt_2_fields_k hm5) d4_reasonNotLive_91 (fun _ hl4 => ?_)
          refine g_callVco hK (mk := mkZ) (rm := rm4_isTyped) (cb := 0) (sb := 0) (As := [.int (zi (zI μ (zsb (zR μ 200 0) + 2) (zx v3)))]) (b := 200) (n := 1) (c4_isTyped K.2.1 hK.2.2.2.2.2.2.2.2.1 Z (zI μ (zsb (zR μ 200 0) + 2) (zx v3)) μ hl4) rfl (ci := 4) rfl (by decide) kc_200 q_544 q_545 q_546 q_6 q_547 rfl (by decide +kernel) (by decide) (Nat.le_of_ble_eq_true rfl) (Nat.le_of_ble_eq_true rfl) (Nat.le_of_ble_eq_true rfl) rfl d4_reasonNotLive_92 (fun r2 hr2 hpr2 => ?_)
          refine g_if_eq hK (zb_r r2) (tgt := 100) (by decide) d4_reasonNotLive_95 (fun _ => ?_) (fun _ => ?_)
          · refine g_iconst hK d4_reasonNotLive_100 zki1 ?_
            refine g_istore_n hK (lv2 := [(0, .ref (Z.2.2.1 + 200)), (1, .int (zi a1)), (2, .int (zi 1)), (3, .int (zi x3)), (4, .int (zi v3))]) [1, 2, 0, 3, 4] rfl rfl (by decide) d4_reasonNotLive_101 ?_
            refine g_iinc hK (lv2 := fun v7 => [(0, .ref (Z.2.2.1 + 200)), (1, .int (zi a1)), (2, .int (zi 1)), (3, .int (zi v7)), (4, .int (zi v3))]) 3 rfl [1, 2, 3, 0, 4] (fun _ => rfl) (by decide) d4_reasonNotLive_102 (fun v7 hv7 => ?_)
            refine g_goto hK (tgt := 30) (by decide) d4_reasonNotLive_105 ?_
            refine g_lv (lv2 := [(0, .ref (Z.2.2.1 + 200)), (1, .int (zi a1)), (2, .int (zi 1)), (3, .int (zi v7))]) [0, 1, 2, 3] rfl ?_
            exact hk30 1 v7  zc1 hv7
          · refine g_iconst hK d4_reasonNotLive_98 zki2 ?_
            exact g_iret hK zc2 rfl rfl d4_reasonNotLive_99
set_option maxRecDepth 20000 in
theorem l4_reasonNotLive_30 {K : zK} {Z : zZ} (hcx : zOk K Z b4_reasonNotLive RX4 5 (some .int) 1 29 0 0 ∧ ∀ x ∈ K.2.2.2.2.2.2.2.2.2.exceptionTable.toList, False) (a1 : Int) (μ : zM) (ha1 : zr a1) : ∀ (i9 : Nat) (x2 : Int) (x3 : Int) (hx2 : zr x2) (hx3 : zr x3), zG K Z (zΩ Z) (zF K Z (zΩ Z) (zeP mkI μ)) 0 0 30 [(0, .ref (Z.2.2.1 + 200)), (1, .int (zi a1)), (2, .int (zi x2)), (3, .int (zi x3))] [] μ (zfx (f4_reasonNotLive_30 a1 μ) (fun _ _ => none) i9 x2 x3) := by
  intro i9
  induction i9 with
  | zero => intro x2 x3 hx2 hx3; exact g_none
  | succ i9 ih => intro x2 x3 hx2 hx3; exact p4_reasonNotLive_30 hcx a1 μ ha1  (zfx (f4_reasonNotLive_30 a1 μ) (fun _ _ => none) i9) ih x2 x3 hx2 hx3
set_option maxRecDepth 20000 in
theorem c4_reasonNotLive (l : Launch) (hst : l.stackTraces = false) (Z : zZ) (a1 : Int) (μ : zM) (ha1 : zr a1) : ∀ x, f4_reasonNotLive a1 μ = some x → zCt l Z (zΩ Z) y4_reasonNotLive (zws (.code y4_reasonNotLive b4_reasonNotLive 5 (some .int))) rm4_reasonNotLive [.ref (Z.2.2.1 + 200), .int (zi a1)] μ (zeP mkI μ x) := by
  intro x h
  refine zCt.of (enc := (zeP mkI μ)) h (by decide) hst (Nat.le_of_ble_eq_true rfl) (fun K hK0 hex hl _ => ?_)
  subst hl
  have hcx : zOk K Z b4_reasonNotLive RX4 5 (some .int) 1 29 0 0 ∧ ∀ x ∈ K.2.2.2.2.2.2.2.2.2.exceptionTable.toList, False := ⟨hK0, hex⟩
  have hK := hcx.1
  show zG K Z (zΩ Z) (zF K Z (zΩ Z) (zeP mkI μ)) 0 0 0 [(0, .ref (Z.2.2.1 + 200)), (1, .int (zi a1))] [] μ (f4_reasonNotLive a1 μ)
  unfold f4_reasonNotLive
  refine g_aload_n hK 0 rfl rfl d4_reasonNotLive_0 ?_
  refine g_iload_n hK 1 rfl rfl d4_reasonNotLive_1 ?_
  refine g_callVco hK (mk := mkZ) (rm := rm4_isLive) (cb := 0) (sb := 0) (As := [.int (zi a1)]) (b := 200) (n := 1) (c4_isLive K.2.1 hK.2.2.2.2.2.2.2.2.1 Z a1 μ ha1) rfl (ci := 4) rfl (by decide) kc_200 q_577 q_578 q_579 q_6 q_580 rfl (by decide +kernel) (by decide) (Nat.le_of_ble_eq_true rfl) (Nat.le_of_ble_eq_true rfl) (Nat.le_of_ble_eq_true rfl) rfl d4_reasonNotLive_2 (fun r1 hr1 hpr1 => ?_)
  refine g_if_eq hK (zb_r r1) (tgt := 10) (by decide) d4_reasonNotLive_5 (fun _ => ?_) (fun _ => ?_)
  · refine g_aload_n hK 0 rfl rfl d4_reasonNotLive_10 ?_
    refine g_getM hK zfin_4 (fa_4_0 kc_200) q_228 (w := 2) (by decide) d4_reasonNotLive_11 (fun hm1 => ?_)
    refine g_getI hK zfin_2 (fa_2_3 hm1) q_56 d4_reasonNotLive_14 (fun hf1 => ?_)
    refine g_iload_n hK 1 rfl rfl d4_reasonNotLive_17 ?_
    refine g_ishr hK d4_reasonNotLive_18 (fun v1 hv1 => ?_)
    refine g_iconst hK d4_reasonNotLive_19 zki1 ?_
    refine g_iand hK d4_reasonNotLive_20 (fun v2 hv2 => ?_)
    refine g_if_ne hK hv2 (tgt := 26) (by decide) d4_reasonNotLive_21 (fun _ => ?_) (fun _ => ?_)
    · refine g_iconst hK d4_reasonNotLive_26 zki0 ?_
      refine g_istore_n hK (lv2 := [(0, .ref (Z.2.2.1 + 200)), (1, .int (zi a1)), (2, .int (zi 0))]) [1, 2, 0] rfl rfl (by decide) d4_reasonNotLive_27 ?_
      refine g_iconst hK d4_reasonNotLive_28 zki0 ?_
      refine g_istore_n hK (lv2 := [(0, .ref (Z.2.2.1 + 200)), (1, .int (zi a1)), (2, .int (zi 0)), (3, .int (zi 0))]) [1, 2, 3, 0] rfl rfl (by decide) d4_reasonNotLive_29 ?_
      exact l4_reasonNotLive_30 hcx a1 μ ha1  zFu 0 0  zc0 zc0
    · refine g_iconst hK d4_reasonNotLive_24 zki1 ?_
      exact g_iret hK zc1 rfl rfl d4_reasonNotLive_25
  · refine g_iconst hK d4_reasonNotLive_8 zki0 ?_
    exact g_iret hK zc0 rfl rfl d4_reasonNotLive_9
set_option maxRecDepth 20000 in
theorem p4_countYielded_4 {K : zK} {Z : zZ} (hcx : zOk K Z b4_countYielded RX4 3 (some .int) 1 29 0 0 ∧ ∀ x ∈ K.2.2.2.2.2.2.2.2.2.exceptionTable.toList, False) (μ : zM) (k4 : Int → Int → Option Int) (hk4 : ∀ (x1 : Int) (x2 : Int) (hx1 : zr x1) (hx2 : zr x2), zG K Z (zΩ Z) (zF K Z (zΩ Z) (zeP mkI μ)) 0 0 4 [(0, .ref (Z.2.2.1 + 200)), (1, .int (zi x1)), (2, .int (zi x2))] [] μ (k4 x1 x2)) (x1 : Int) (x2 : Int) (hx1 : zr x1) (hx2 : zr x2) : zG K Z (zΩ Z) (zF K Z (zΩ Z) (zeP mkI μ)) 0 0 4 [(0, .ref (Z.2.2.1 + 200)), (1, .int (zi x1)), (2, .int (zi x2))] [] μ (f4_countYielded_4 μ k4 x1 x2) := by
  obtain ⟨hK, hex⟩ := id hcx
  unfold f4_countYielded_4
  refine g_iload_n hK 2 rfl rfl d4_countYielded_4 ?_
  refine g_aload_n hK 0 rfl rfl d4_countYielded_5 ?_
  refine g_getM hK zfin_4 (fa_4_0 kc_200) q_228 (w := 2) (by decide) d4_countYielded_6 (fun hm1 => ?_)
  refine g_getI hK zfin_2 (fa_2_2 hm1) q_52 d4_countYielded_9 (fun hf1 => ?_)
  refine g_icmp_ge hK hx2 hf1 (tgt := 53) (by decide) d4_countYielded_12 (fun _ => ?_) (fun _ => ?_)
  · refine g_iload_n hK 1 rfl rfl d4_countYielded_53 ?_
    exact g_iret hK hx1 rfl rfl d4_countYielded_54
  · refine g_aload_n hK 0 rfl rfl d4_countYielded_15 ?_
    refine g_getR hK zfin_4 (fa_4_4 kc_200) q_235 (r := 202) (by decide +kernel) d4_countYielded_16 ?_
    refine g_iload_n hK 2 rfl rfl d4_countYielded_19 ?_
    refine g_zald hK kc_202 d4_countYielded_20 (fun _ hl1 => ?_)
    refine g_if_eq hK hl1 (tgt := 47) (by decide) d4_countYielded_21 (fun _ => ?_) (fun _ => ?_)
    · refine g_iinc hK (lv2 := fun v1 => [(0, .ref (Z.2.2.1 + 200)), (1, .int (zi x1)), (2, .int (zi v1))]) 2 rfl [1, 2, 0] (fun _ => rfl) (by decide) d4_countYielded_47 (fun v1 hv1 => ?_)
      refine g_goto hK (tgt := 4) (by decide) d4_countYielded_50 ?_
      exact hk4 x1 v1  hx1 hv1
    · refine g_aload_n hK 0 rfl rfl d4_countYielded_24 ?_
      refine g_getM hK zfin_4 (fa_4_0 kc_200) q_228 (w := 2) (by decide) d4_countYielded_25 (fun hm2 => ?_)
      refine g_getR hK zfin_2 (fa_2_6 hm2) q_66 (pt_2_hasDefault hm2) d4_countYielded_28 ?_
      refine g_iload_n hK 2 rfl rfl d4_countYielded_31 ?_
      refine g_zald hK (pt_2_hasDefault_k hm2) d4_countYielded_32 (fun _ hl2 => ?_)
      refine g_if_eq hK hl2 (tgt := 47) (by decide) d4_countYielded_33 (fun _ => ?_) (fun _ => ?_)
      · refine g_iinc hK (lv2 := fun v2 => [(0, .ref (Z.2.2.1 + 200)), (1, .int (zi x1)), (2, .int (zi v2))]) 2 rfl [1, 2, 0] (fun _ => rfl) (by decide) d4_countYielded_47 (fun v2 hv2 => ?_)
        refine g_goto hK (tgt := 4) (by decide) d4_countYielded_50 ?_
        exact hk4 x1 v2  hx1 hv2
      · refine g_aload_n hK 0 rfl rfl d4_countYielded_36 ?_
        refine g_iload_n hK 2 rfl rfl d4_countYielded_37 ?_
        refine g_callVco hK (mk := mkZ) (rm := rm4_isDefaultShown) (cb := 0) (sb := 0) (As := [.int (zi x2)]) (b := 200) (n := 1) (c4_isDefaultShown K.2.1 hK.2.2.2.2.2.2.2.2.1 Z x2 μ hx2) rfl (ci := 4) rfl (by decide) kc_200 q_540 q_541 q_542 q_6 q_543 rfl (by decide +kernel) (by decide) (Nat.le_of_ble_eq_true rfl) (Nat.le_of_ble_eq_true rfl) (Nat.le_of_ble_eq_true rfl) rfl d4_countYielded_38 (fun r1 hr1 hpr1 => ?_)
        refine g_if_ne hK (zb_r r1) (tgt := 47) (by decide) d4_countYielded_41 (fun _ => ?_) (fun _ => ?_)
        · refine g_iinc hK (lv2 := fun v3 => [(0, .ref (Z.2.2.1 + 200)), (1, .int (zi x1)), (2, .int (zi v3))]) 2 rfl [1, 2, 0] (fun _ => rfl) (by decide) d4_countYielded_47 (fun v3 hv3 => ?_)
          refine g_goto hK (tgt := 4) (by decide) d4_countYielded_50 ?_
          exact hk4 x1 v3  hx1 hv3
        · refine g_iinc hK (lv2 := fun v4 => [(0, .ref (Z.2.2.1 + 200)), (1, .int (zi v4)), (2, .int (zi x2))]) 1 rfl [1, 0, 2] (fun _ => rfl) (by decide) d4_countYielded_44 (fun v4 hv4 => ?_)
          refine g_iinc hK (lv2 := fun v5 => [(0, .ref (Z.2.2.1 + 200)), (1, .int (zi v4)), (2, .int (zi v5))]) 2 rfl [1, 2, 0] (fun _ => rfl) (by decide) d4_countYielded_47 (fun v5 hv5 => ?_)
          refine g_goto hK (tgt := 4) (by decide) d4_countYielded_50 ?_
          exact hk4 v4 v5  hv4 hv5
set_option maxRecDepth 20000 in
theorem l4_countYielded_4 {K : zK} {Z : zZ} (hcx : zOk K Z b4_countYielded RX4 3 (some .int) 1 29 0 0 ∧ ∀ x ∈ K.2.2.2.2.2.2.2.2.2.exceptionTable.toList, False) (μ : zM) : ∀ (i9 : Nat) (x1 : Int) (x2 : Int) (hx1 : zr x1) (hx2 : zr x2), zG K Z (zΩ Z) (zF K Z (zΩ Z) (zeP mkI μ)) 0 0 4 [(0, .ref (Z.2.2.1 + 200)), (1, .int (zi x1)), (2, .int (zi x2))] [] μ (zfx (f4_countYielded_4 μ) (fun _ _ => none) i9 x1 x2) := by
  intro i9
  induction i9 with
  | zero => intro x1 x2 hx1 hx2; exact g_none
  | succ i9 ih => intro x1 x2 hx1 hx2; exact p4_countYielded_4 hcx μ  (zfx (f4_countYielded_4 μ) (fun _ _ => none) i9) ih x1 x2 hx1 hx2
set_option maxRecDepth 20000 in
theorem c4_countYielded (l : Launch) (hst : l.stackTraces = false) (Z : zZ) (μ : zM) : ∀ x, f4_countYielded μ = some x → zCt l Z (zΩ Z) y4_countYielded (zws (.code y4_countYielded b4_countYielded 3 (some .int))) rm4_countYielded [.ref (Z.2.2.1 + 200)] μ (zeP mkI μ x) := by
  intro x h
  refine zCt.of (enc := (zeP mkI μ)) h (by decide) hst (Nat.le_of_ble_eq_true rfl) (fun K hK0 hex hl _ => ?_)
  subst hl
  have hcx : zOk K Z b4_countYielded RX4 3 (some .int) 1 29 0 0 ∧ ∀ x ∈ K.2.2.2.2.2.2.2.2.2.exceptionTable.toList, False := ⟨hK0, hex⟩
  have hK := hcx.1
  show zG K Z (zΩ Z) (zF K Z (zΩ Z) (zeP mkI μ)) 0 0 0 [(0, .ref (Z.2.2.1 + 200))] [] μ (f4_countYielded μ)
  unfold f4_countYielded
  refine g_iconst hK d4_countYielded_0 zki0 ?_
  refine g_istore_n hK (lv2 := [(0, .ref (Z.2.2.1 + 200)), (1, .int (zi 0))]) [1, 0] rfl rfl (by decide) d4_countYielded_1 ?_
  refine g_iconst hK d4_countYielded_2 zki0 ?_
  refine g_istore_n hK (lv2 := [(0, .ref (Z.2.2.1 + 200)), (1, .int (zi 0)), (2, .int (zi 0))]) [1, 2, 0] rfl rfl (by decide) d4_countYielded_3 ?_
  exact l4_countYielded_4 hcx μ  zFu 0 0  zc0 zc0
set_option maxRecDepth 20000 in
theorem p4_countMirrored_4 {K : zK} {Z : zZ} (hcx : zOk K Z b4_countMirrored RX4 3 (some .int) 0 8 0 0 ∧ ∀ x ∈ K.2.2.2.2.2.2.2.2.2.exceptionTable.toList, False) (μ : zM) (k4 : Int → Int → Option Int) (hk4 : ∀ (x1 : Int) (x2 : Int) (hx1 : zr x1) (hx2 : zr x2), zG K Z (zΩ Z) (zF K Z (zΩ Z) (zeP mkI μ)) 0 0 4 [(0, .ref (Z.2.2.1 + 200)), (1, .int (zi x1)), (2, .int (zi x2))] [] μ (k4 x1 x2)) (x1 : Int) (x2 : Int) (hx1 : zr x1) (hx2 : zr x2) : zG K Z (zΩ Z) (zF K Z (zΩ Z) (zeP mkI μ)) 0 0 4 [(0, .ref (Z.2.2.1 + 200)), (1, .int (zi x1)), (2, .int (zi x2))] [] μ (f4_countMirrored_4 μ k4 x1 x2) := by
  obtain ⟨hK, hex⟩ := id hcx
  unfold f4_countMirrored_4
  refine g_iload_n hK 2 rfl rfl d4_countMirrored_4 ?_
  refine g_bipush hK d4_countMirrored_5 zkb10 ?_
  refine g_icmp_ge hK hx2 zc10 (tgt := 29) (by decide) d4_countMirrored_7 (fun _ => ?_) (fun _ => ?_)
  · refine g_iload_n hK 1 rfl rfl d4_countMirrored_29 ?_
    exact g_iret hK hx1 rfl rfl d4_countMirrored_30
  · refine g_aload_n hK 0 rfl rfl d4_countMirrored_10 ?_
    refine g_getR hK zfin_4 (fa_4_6 kc_200) q_239 (r := 204) (by decide +kernel) d4_countMirrored_11 ?_
    refine g_iload_n hK 2 rfl rfl d4_countMirrored_14 ?_
    refine g_iald hK kc_204 d4_countMirrored_15 (fun _ hl1 => ?_)
    refine g_iconst hK d4_countMirrored_16 zki2 ?_
    refine g_icmp_lt hK hl1 zc2 (tgt := 23) (by decide) d4_countMirrored_17 (fun _ => ?_) (fun _ => ?_)
    · refine g_iinc hK (lv2 := fun v1 => [(0, .ref (Z.2.2.1 + 200)), (1, .int (zi x1)), (2, .int (zi v1))]) 2 rfl [1, 2, 0] (fun _ => rfl) (by decide) d4_countMirrored_23 (fun v1 hv1 => ?_)
      refine g_goto hK (tgt := 4) (by decide) d4_countMirrored_26 ?_
      exact hk4 x1 v1  hx1 hv1
    · refine g_iinc hK (lv2 := fun v2 => [(0, .ref (Z.2.2.1 + 200)), (1, .int (zi v2)), (2, .int (zi x2))]) 1 rfl [1, 0, 2] (fun _ => rfl) (by decide) d4_countMirrored_20 (fun v2 hv2 => ?_)
      refine g_iinc hK (lv2 := fun v3 => [(0, .ref (Z.2.2.1 + 200)), (1, .int (zi v2)), (2, .int (zi v3))]) 2 rfl [1, 2, 0] (fun _ => rfl) (by decide) d4_countMirrored_23 (fun v3 hv3 => ?_)
      refine g_goto hK (tgt := 4) (by decide) d4_countMirrored_26 ?_
      exact hk4 v2 v3  hv2 hv3
set_option maxRecDepth 20000 in
theorem l4_countMirrored_4 {K : zK} {Z : zZ} (hcx : zOk K Z b4_countMirrored RX4 3 (some .int) 0 8 0 0 ∧ ∀ x ∈ K.2.2.2.2.2.2.2.2.2.exceptionTable.toList, False) (μ : zM) : ∀ (i9 : Nat) (x1 : Int) (x2 : Int) (hx1 : zr x1) (hx2 : zr x2), zG K Z (zΩ Z) (zF K Z (zΩ Z) (zeP mkI μ)) 0 0 4 [(0, .ref (Z.2.2.1 + 200)), (1, .int (zi x1)), (2, .int (zi x2))] [] μ (zfx (f4_countMirrored_4 μ) (fun _ _ => none) i9 x1 x2) := by
  intro i9
  induction i9 with
  | zero => intro x1 x2 hx1 hx2; exact g_none
  | succ i9 ih => intro x1 x2 hx1 hx2; exact p4_countMirrored_4 hcx μ  (zfx (f4_countMirrored_4 μ) (fun _ _ => none) i9) ih x1 x2 hx1 hx2
set_option maxRecDepth 20000 in
theorem c4_countMirrored (l : Launch) (hst : l.stackTraces = false) (Z : zZ) (μ : zM) : ∀ x, f4_countMirrored μ = some x → zCt l Z (zΩ Z) y4_countMirrored (zws (.code y4_countMirrored b4_countMirrored 3 (some .int))) rm4_countMirrored [.ref (Z.2.2.1 + 200)] μ (zeP mkI μ x) := by
  intro x h
  refine zCt.of (enc := (zeP mkI μ)) h (by decide) hst (Nat.le_of_ble_eq_true rfl) (fun K hK0 hex hl _ => ?_)
  subst hl
  have hcx : zOk K Z b4_countMirrored RX4 3 (some .int) 0 8 0 0 ∧ ∀ x ∈ K.2.2.2.2.2.2.2.2.2.exceptionTable.toList, False := ⟨hK0, hex⟩
  have hK := hcx.1
  show zG K Z (zΩ Z) (zF K Z (zΩ Z) (zeP mkI μ)) 0 0 0 [(0, .ref (Z.2.2.1 + 200))] [] μ (f4_countMirrored μ)
  unfold f4_countMirrored
  refine g_iconst hK d4_countMirrored_0 zki0 ?_
  refine g_istore_n hK (lv2 := [(0, .ref (Z.2.2.1 + 200)), (1, .int (zi 0))]) [1, 0] rfl rfl (by decide) d4_countMirrored_1 ?_
  refine g_iconst hK d4_countMirrored_2 zki0 ?_
  refine g_istore_n hK (lv2 := [(0, .ref (Z.2.2.1 + 200)), (1, .int (zi 0)), (2, .int (zi 0))]) [1, 2, 0] rfl rfl (by decide) d4_countMirrored_3 ?_
  exact l4_countMirrored_4 hcx μ  zFu 0 0  zc0 zc0
set_option maxRecDepth 20000 in
theorem p4_fieldOfLongestValue_4 {K : zK} {Z : zZ} (hcx : zOk K Z b4_fieldOfLongestValue RX4 3 (some .int) 1 29 0 0 ∧ ∀ x ∈ K.2.2.2.2.2.2.2.2.2.exceptionTable.toList, False) (μ : zM) (k4 : Int → Int → Option Int) (hk4 : ∀ (x1 : Int) (x2 : Int) (hx1 : zr x1) (hx2 : zr x2), zG K Z (zΩ Z) (zF K Z (zΩ Z) (zeP mkI μ)) 0 0 4 [(0, .ref (Z.2.2.1 + 200)), (1, .int (zi x1)), (2, .int (zi x2))] [] μ (k4 x1 x2)) (x1 : Int) (x2 : Int) (hx1 : zr x1) (hx2 : zr x2) : zG K Z (zΩ Z) (zF K Z (zΩ Z) (zeP mkI μ)) 0 0 4 [(0, .ref (Z.2.2.1 + 200)), (1, .int (zi x1)), (2, .int (zi x2))] [] μ (f4_fieldOfLongestValue_4 μ k4 x1 x2) := by
  obtain ⟨hK, hex⟩ := id hcx
  unfold f4_fieldOfLongestValue_4
  refine g_iload_n hK 2 rfl rfl d4_fieldOfLongestValue_4 ?_
  refine g_bipush hK d4_fieldOfLongestValue_5 zkb10 ?_
  refine g_icmp_ge hK hx2 zc10 (tgt := 47) (by decide) d4_fieldOfLongestValue_7 (fun _ => ?_) (fun _ => ?_)
  · refine g_iload_n hK 1 rfl rfl d4_fieldOfLongestValue_47 ?_
    exact g_iret hK hx1 rfl rfl d4_fieldOfLongestValue_48
  · refine g_aload_n hK 0 rfl rfl d4_fieldOfLongestValue_10 ?_
    refine g_iload_n hK 2 rfl rfl d4_fieldOfLongestValue_11 ?_
    refine g_callVco hK (mk := mkZ) (rm := rm4_isLive) (cb := 0) (sb := 0) (As := [.int (zi x2)]) (b := 200) (n := 1) (c4_isLive K.2.1 hK.2.2.2.2.2.2.2.2.1 Z x2 μ hx2) rfl (ci := 4) rfl (by decide) kc_200 q_577 q_578 q_579 q_6 q_580 rfl (by decide +kernel) (by decide) (Nat.le_of_ble_eq_true rfl) (Nat.le_of_ble_eq_true rfl) (Nat.le_of_ble_eq_true rfl) rfl d4_fieldOfLongestValue_12 (fun r1 hr1 hpr1 => ?_)
    refine g_if_eq hK (zb_r r1) (tgt := 41) (by decide) d4_fieldOfLongestValue_15 (fun _ => ?_) (fun _ => ?_)
    · refine g_iinc hK (lv2 := fun v1 => [(0, .ref (Z.2.2.1 + 200)), (1, .int (zi x1)), (2, .int (zi v1))]) 2 rfl [1, 2, 0] (fun _ => rfl) (by decide) d4_fieldOfLongestValue_41 (fun v1 hv1 => ?_)
      refine g_goto hK (tgt := 4) (by decide) d4_fieldOfLongestValue_44 ?_
      exact hk4 x1 v1  hx1 hv1
    · refine g_iload_n hK 1 rfl rfl d4_fieldOfLongestValue_18 ?_
      refine g_iconst hK d4_fieldOfLongestValue_19 zkim1 ?_
      refine g_icmp_eq hK hx1 zcm1 (tgt := 39) (by decide) d4_fieldOfLongestValue_20 (fun _ => ?_) (fun _ => ?_)
      · refine g_iload_n hK 2 rfl rfl d4_fieldOfLongestValue_39 ?_
        refine g_istore_n hK (lv2 := [(0, .ref (Z.2.2.1 + 200)), (1, .int (zi x2)), (2, .int (zi x2))]) [1, 0, 2] rfl rfl (by decide) d4_fieldOfLongestValue_40 ?_
        refine g_iinc hK (lv2 := fun v2 => [(0, .ref (Z.2.2.1 + 200)), (1, .int (zi x2)), (2, .int (zi v2))]) 2 rfl [1, 2, 0] (fun _ => rfl) (by decide) d4_fieldOfLongestValue_41 (fun v2 hv2 => ?_)
        refine g_goto hK (tgt := 4) (by decide) d4_fieldOfLongestValue_44 ?_
        exact hk4 x2 v2  hx2 hv2
      · refine g_aload_n hK 0 rfl rfl d4_fieldOfLongestValue_23 ?_
        refine g_getR hK zfin_4 (fa_4_7 kc_200) q_241 (r := 205) (by decide +kernel) d4_fieldOfLongestValue_24 ?_
        refine g_iload_n hK 2 rfl rfl d4_fieldOfLongestValue_27 ?_
        refine g_lald hK kc_205 d4_fieldOfLongestValue_28 (fun _ hl1 => ?_)
        refine g_aload_n hK 0 rfl rfl d4_fieldOfLongestValue_29 ?_
        refine g_getR hK zfin_4 (fa_4_7 kc_200) q_241 (r := 205) (by decide +kernel) d4_fieldOfLongestValue_30 ?_
        refine g_iload_n hK 1 rfl rfl d4_fieldOfLongestValue_33 ?_
        refine g_lald hK kc_205 d4_fieldOfLongestValue_34 (fun _ hl2 => ?_)
        refine g_lcmp hK d4_fieldOfLongestValue_35 hl1 hl2 (fun v3 hv3 => ?_)
        refine g_if_le hK hv3 (tgt := 41) (by decide) d4_fieldOfLongestValue_36 (fun _ => ?_) (fun _ => ?_)
        · refine g_iinc hK (lv2 := fun v4 => [(0, .ref (Z.2.2.1 + 200)), (1, .int (zi x1)), (2, .int (zi v4))]) 2 rfl [1, 2, 0] (fun _ => rfl) (by decide) d4_fieldOfLongestValue_41 (fun v4 hv4 => ?_)
          refine g_goto hK (tgt := 4) (by decide) d4_fieldOfLongestValue_44 ?_
          exact hk4 x1 v4  hx1 hv4
        · refine g_iload_n hK 2 rfl rfl d4_fieldOfLongestValue_39 ?_
          refine g_istore_n hK (lv2 := [(0, .ref (Z.2.2.1 + 200)), (1, .int (zi x2)), (2, .int (zi x2))]) [1, 0, 2] rfl rfl (by decide) d4_fieldOfLongestValue_40 ?_
          refine g_iinc hK (lv2 := fun v5 => [(0, .ref (Z.2.2.1 + 200)), (1, .int (zi x2)), (2, .int (zi v5))]) 2 rfl [1, 2, 0] (fun _ => rfl) (by decide) d4_fieldOfLongestValue_41 (fun v5 hv5 => ?_)
          refine g_goto hK (tgt := 4) (by decide) d4_fieldOfLongestValue_44 ?_
          exact hk4 x2 v5  hx2 hv5
set_option maxRecDepth 20000 in
theorem l4_fieldOfLongestValue_4 {K : zK} {Z : zZ} (hcx : zOk K Z b4_fieldOfLongestValue RX4 3 (some .int) 1 29 0 0 ∧ ∀ x ∈ K.2.2.2.2.2.2.2.2.2.exceptionTable.toList, False) (μ : zM) : ∀ (i9 : Nat) (x1 : Int) (x2 : Int) (hx1 : zr x1) (hx2 : zr x2), zG K Z (zΩ Z) (zF K Z (zΩ Z) (zeP mkI μ)) 0 0 4 [(0, .ref (Z.2.2.1 + 200)), (1, .int (zi x1)), (2, .int (zi x2))] [] μ (zfx (f4_fieldOfLongestValue_4 μ) (fun _ _ => none) i9 x1 x2) := by
  intro i9
  induction i9 with
  | zero => intro x1 x2 hx1 hx2; exact g_none
  | succ i9 ih => intro x1 x2 hx1 hx2; exact p4_fieldOfLongestValue_4 hcx μ  (zfx (f4_fieldOfLongestValue_4 μ) (fun _ _ => none) i9) ih x1 x2 hx1 hx2
set_option maxRecDepth 20000 in
theorem c4_fieldOfLongestValue (l : Launch) (hst : l.stackTraces = false) (Z : zZ) (μ : zM) : ∀ x, f4_fieldOfLongestValue μ = some x → zCt l Z (zΩ Z) y4_fieldOfLongestValue (zws (.code y4_fieldOfLongestValue b4_fieldOfLongestValue 3 (some .int))) rm4_fieldOfLongestValue [.ref (Z.2.2.1 + 200)] μ (zeP mkI μ x) := by
  intro x h
  refine zCt.of (enc := (zeP mkI μ)) h (by decide) hst (Nat.le_of_ble_eq_true rfl) (fun K hK0 hex hl _ => ?_)
  subst hl
  have hcx : zOk K Z b4_fieldOfLongestValue RX4 3 (some .int) 1 29 0 0 ∧ ∀ x ∈ K.2.2.2.2.2.2.2.2.2.exceptionTable.toList, False := ⟨hK0, hex⟩
  have hK := hcx.1
  show zG K Z (zΩ Z) (zF K Z (zΩ Z) (zeP mkI μ)) 0 0 0 [(0, .ref (Z.2.2.1 + 200))] [] μ (f4_fieldOfLongestValue μ)
  unfold f4_fieldOfLongestValue
  refine g_iconst hK d4_fieldOfLongestValue_0 zkim1 ?_
  refine g_istore_n hK (lv2 := [(0, .ref (Z.2.2.1 + 200)), (1, .int (zi (-1)))]) [1, 0] rfl rfl (by decide) d4_fieldOfLongestValue_1 ?_
  refine g_iconst hK d4_fieldOfLongestValue_2 zki0 ?_
  refine g_istore_n hK (lv2 := [(0, .ref (Z.2.2.1 + 200)), (1, .int (zi (-1))), (2, .int (zi 0))]) [1, 2, 0] rfl rfl (by decide) d4_fieldOfLongestValue_3 ?_
  exact l4_fieldOfLongestValue_4 hcx μ  zFu (-1) 0  zcm1 zc0
set_option maxRecDepth 20000 in
theorem p4_lengthOfLiveValues_4 {K : zK} {Z : zZ} (hcx : zOk K Z b4_lengthOfLiveValues RX4 4 (some .long) 1 29 0 0 ∧ ∀ x ∈ K.2.2.2.2.2.2.2.2.2.exceptionTable.toList, False) (μ : zM) (k4 : Int → Int → Option Int) (hk4 : ∀ (x1 : Int) (x3 : Int) (hx1 : zr64 x1) (hx3 : zr x3), zG K Z (zΩ Z) (zF K Z (zΩ Z) (zeP mkL μ)) 0 0 4 [(0, .ref (Z.2.2.1 + 200)), (1, .long (zl x1)), (3, .int (zi x3))] [] μ (k4 x1 x3)) (x1 : Int) (x3 : Int) (hx1 : zr64 x1) (hx3 : zr x3) : zG K Z (zΩ Z) (zF K Z (zΩ Z) (zeP mkL μ)) 0 0 4 [(0, .ref (Z.2.2.1 + 200)), (1, .long (zl x1)), (3, .int (zi x3))] [] μ (f4_lengthOfLiveValues_4 μ k4 x1 x3) := by
  obtain ⟨hK, hex⟩ := id hcx
  unfold f4_lengthOfLiveValues_4
  refine g_iload_n hK 2 rfl rfl d4_lengthOfLiveValues_4 ?_
  refine g_bipush hK d4_lengthOfLiveValues_5 zkb10 ?_
  refine g_icmp_ge hK hx3 zc10 (tgt := 33) (by decide) d4_lengthOfLiveValues_7 (fun _ => ?_) (fun _ => ?_)
  · refine g_lload_n hK 1 rfl rfl d4_lengthOfLiveValues_33 ?_
    exact g_lret hK hx1 rfl rfl d4_lengthOfLiveValues_34
  · refine g_aload_n hK 0 rfl rfl d4_lengthOfLiveValues_10 ?_
    refine g_iload_n hK 2 rfl rfl d4_lengthOfLiveValues_11 ?_
    refine g_callVco hK (mk := mkZ) (rm := rm4_isLive) (cb := 0) (sb := 0) (As := [.int (zi x3)]) (b := 200) (n := 1) (c4_isLive K.2.1 hK.2.2.2.2.2.2.2.2.1 Z x3 μ hx3) rfl (ci := 4) rfl (by decide) kc_200 q_577 q_578 q_579 q_6 q_580 rfl (by decide +kernel) (by decide) (Nat.le_of_ble_eq_true rfl) (Nat.le_of_ble_eq_true rfl) (Nat.le_of_ble_eq_true rfl) rfl d4_lengthOfLiveValues_12 (fun r1 hr1 hpr1 => ?_)
    refine g_if_eq hK (zb_r r1) (tgt := 27) (by decide) d4_lengthOfLiveValues_15 (fun _ => ?_) (fun _ => ?_)
    · refine g_iinc hK (lv2 := fun v1 => [(0, .ref (Z.2.2.1 + 200)), (1, .long (zl x1)), (3, .int (zi v1))]) 2 rfl [1, 2, 0] (fun _ => rfl) (by decide) d4_lengthOfLiveValues_27 (fun v1 hv1 => ?_)
      refine g_goto hK (tgt := 4) (by decide) d4_lengthOfLiveValues_30 ?_
      exact hk4 x1 v1  hx1 hv1
    · refine g_lload_n hK 1 rfl rfl d4_lengthOfLiveValues_18 ?_
      refine g_aload_n hK 0 rfl rfl d4_lengthOfLiveValues_19 ?_
      refine g_getR hK zfin_4 (fa_4_7 kc_200) q_241 (r := 205) (by decide +kernel) d4_lengthOfLiveValues_20 ?_
      refine g_iload_n hK 2 rfl rfl d4_lengthOfLiveValues_23 ?_
      refine g_lald hK kc_205 d4_lengthOfLiveValues_24 (fun _ hl1 => ?_)
      refine g_ladd hK d4_lengthOfLiveValues_25 (fun w1 hw1 => ?_)
      refine g_lstore_n hK (lv2 := [(0, .ref (Z.2.2.1 + 200)), (1, .long (zl w1)), (3, .int (zi x3))]) [1, 0, 2] rfl rfl (by decide) d4_lengthOfLiveValues_26 ?_
      refine g_iinc hK (lv2 := fun v2 => [(0, .ref (Z.2.2.1 + 200)), (1, .long (zl w1)), (3, .int (zi v2))]) 2 rfl [1, 2, 0] (fun _ => rfl) (by decide) d4_lengthOfLiveValues_27 (fun v2 hv2 => ?_)
      refine g_goto hK (tgt := 4) (by decide) d4_lengthOfLiveValues_30 ?_
      exact hk4 w1 v2  hw1 hv2
set_option maxRecDepth 20000 in
theorem l4_lengthOfLiveValues_4 {K : zK} {Z : zZ} (hcx : zOk K Z b4_lengthOfLiveValues RX4 4 (some .long) 1 29 0 0 ∧ ∀ x ∈ K.2.2.2.2.2.2.2.2.2.exceptionTable.toList, False) (μ : zM) : ∀ (i9 : Nat) (x1 : Int) (x3 : Int) (hx1 : zr64 x1) (hx3 : zr x3), zG K Z (zΩ Z) (zF K Z (zΩ Z) (zeP mkL μ)) 0 0 4 [(0, .ref (Z.2.2.1 + 200)), (1, .long (zl x1)), (3, .int (zi x3))] [] μ (zfx (f4_lengthOfLiveValues_4 μ) (fun _ _ => none) i9 x1 x3) := by
  intro i9
  induction i9 with
  | zero => intro x1 x3 hx1 hx3; exact g_none
  | succ i9 ih => intro x1 x3 hx1 hx3; exact p4_lengthOfLiveValues_4 hcx μ  (zfx (f4_lengthOfLiveValues_4 μ) (fun _ _ => none) i9) ih x1 x3 hx1 hx3
set_option maxRecDepth 20000 in
theorem c4_lengthOfLiveValues (l : Launch) (hst : l.stackTraces = false) (Z : zZ) (μ : zM) : ∀ x, f4_lengthOfLiveValues μ = some x → zCt l Z (zΩ Z) y4_lengthOfLiveValues (zws (.code y4_lengthOfLiveValues b4_lengthOfLiveValues 4 (some .long))) rm4_lengthOfLiveValues [.ref (Z.2.2.1 + 200)] μ (zeP mkL μ x) := by
  intro x h
  refine zCt.of (enc := (zeP mkL μ)) h (by decide) hst (Nat.le_of_ble_eq_true rfl) (fun K hK0 hex hl _ => ?_)
  subst hl
  have hcx : zOk K Z b4_lengthOfLiveValues RX4 4 (some .long) 1 29 0 0 ∧ ∀ x ∈ K.2.2.2.2.2.2.2.2.2.exceptionTable.toList, False := ⟨hK0, hex⟩
  have hK := hcx.1
  show zG K Z (zΩ Z) (zF K Z (zΩ Z) (zeP mkL μ)) 0 0 0 [(0, .ref (Z.2.2.1 + 200))] [] μ (f4_lengthOfLiveValues μ)
  unfold f4_lengthOfLiveValues
  refine g_lconst hK (v := 0) d4_lengthOfLiveValues_0 rfl ?_
  refine g_lstore_n hK (lv2 := [(0, .ref (Z.2.2.1 + 200)), (1, .long (zl 0))]) [1, 0] rfl rfl (by decide) d4_lengthOfLiveValues_1 ?_
  refine g_iconst hK d4_lengthOfLiveValues_2 zki0 ?_
  refine g_istore_n hK (lv2 := [(0, .ref (Z.2.2.1 + 200)), (1, .long (zl 0)), (3, .int (zi 0))]) [1, 2, 0] rfl rfl (by decide) d4_lengthOfLiveValues_3 ?_
  exact l4_lengthOfLiveValues_4 hcx μ  zFu 0 0  zcL0 zc0
set_option maxRecDepth 20000 in
theorem c4_valueByte (l : Launch) (hst : l.stackTraces = false) (Z : zZ) (a1 : Int) (a2 : Int) (μ : zM) (ha1 : zr a1) (ha2 : zr a2) : ∀ x, f4_valueByte a1 a2 μ = some x → zCt l Z (zΩ Z) y4_valueByte (zws (.code y4_valueByte b4_valueByte 3 (some .int))) rm4_valueByte [.ref (Z.2.2.1 + 200), .int (zi a1), .int (zi a2)] μ (zeP mkI μ x) := by
  intro x h
  refine zCt.of (enc := (zeP mkI μ)) h (by decide) hst (Nat.le_of_ble_eq_true rfl) (fun K hK0 hex hl _ => ?_)
  subst hl
  have hcx : zOk K Z b4_valueByte RX4 3 (some .int) 0 8 0 0 ∧ ∀ x ∈ K.2.2.2.2.2.2.2.2.2.exceptionTable.toList, False := ⟨hK0, hex⟩
  have hK := hcx.1
  show zG K Z (zΩ Z) (zF K Z (zΩ Z) (zeP mkI μ)) 0 0 0 [(0, .ref (Z.2.2.1 + 200)), (1, .int (zi a1)), (2, .int (zi a2))] [] μ (f4_valueByte a1 a2 μ)
  unfold f4_valueByte
  refine g_iload_n hK 2 rfl rfl d4_valueByte_0 ?_
  refine g_if_lt hK ha2 (tgt := 38) (by decide) d4_valueByte_1 (fun _ => ?_) (fun _ => ?_)
  · refine g_iconst hK d4_valueByte_38 zkim1 ?_
    exact g_iret hK zcm1 rfl rfl d4_valueByte_39
  · refine g_iload_n hK 2 rfl rfl d4_valueByte_4 ?_
    refine g_i2l hK d4_valueByte_5 ha2 ?_
    refine g_aload_n hK 0 rfl rfl d4_valueByte_6 ?_
    refine g_getR hK zfin_4 (fa_4_7 kc_200) q_241 (r := 205) (by decide +kernel) d4_valueByte_7 ?_
    refine g_iload_n hK 1 rfl rfl d4_valueByte_10 ?_
    refine g_lald hK kc_205 d4_valueByte_11 (fun _ hl1 => ?_)
    refine g_lcmp hK d4_valueByte_12 (zr_64 ha2) hl1 (fun v1 hv1 => ?_)
    refine g_if_ge hK hv1 (tgt := 38) (by decide) d4_valueByte_13 (fun _ => ?_) (fun _ => ?_)
    · refine g_iconst hK d4_valueByte_38 zkim1 ?_
      exact g_iret hK zcm1 rfl rfl d4_valueByte_39
    · refine g_iload_n hK 2 rfl rfl d4_valueByte_16 ?_
      refine g_sipush hK d4_valueByte_17 zks400 ?_
      refine g_icmp_ge hK ha2 zc400 (tgt := 38) (by decide) d4_valueByte_20 (fun _ => ?_) (fun _ => ?_)
      · refine g_iconst hK d4_valueByte_38 zkim1 ?_
        exact g_iret hK zcm1 rfl rfl d4_valueByte_39
      · refine g_aload_n hK 0 rfl rfl d4_valueByte_23 ?_
        refine g_getR hK zfin_4 (fa_4_11 kc_200) q_249 (r := 207) (by decide +kernel) d4_valueByte_24 ?_
        refine g_iload_n hK 1 rfl rfl d4_valueByte_27 ?_
        refine g_sipush hK d4_valueByte_28 zks400 ?_
        refine g_imul hK d4_valueByte_31 (fun v2 hv2 => ?_)
        refine g_iload_n hK 2 rfl rfl d4_valueByte_32 ?_
        refine g_iadd hK d4_valueByte_33 (fun v3 hv3 => ?_)
        refine g_iald hK kc_207 d4_valueByte_34 (fun _ hl2 => ?_)
        refine g_goto hK (tgt := 39) (by decide) d4_valueByte_35 ?_
        exact g_iret hK hl2 rfl rfl d4_valueByte_39
set_option maxRecDepth 20000 in
theorem c4_toUpper (l : Launch) (hst : l.stackTraces = false) (Z : zZ) (a1 : Int) (μ : zM) (ha1 : zr a1) : ∀ x, f4_toUpper a1 = some x → zCt l Z (zΩ Z) y4_toUpper (zws (.code y4_toUpper b4_toUpper 1 (some .int))) rm4_toUpper [.int (zi a1)] μ (zeP mkI μ x) := by
  intro x h
  refine zCt.of (enc := (zeP mkI μ)) h (by decide) hst (Nat.le_of_ble_eq_true rfl) (fun K hK0 hex hl _ => ?_)
  subst hl
  have hcx : zOk K Z b4_toUpper RX4 1 (some .int) 0 8 0 0 ∧ ∀ x ∈ K.2.2.2.2.2.2.2.2.2.exceptionTable.toList, False := ⟨hK0, hex⟩
  have hK := hcx.1
  show zG K Z (zΩ Z) (zF K Z (zΩ Z) (zeP mkI μ)) 0 0 0 [(0, .int (zi a1))] [] μ (f4_toUpper a1)
  unfold f4_toUpper
  refine g_iload_n hK 0 rfl rfl d4_toUpper_0 ?_
  refine g_bipush hK d4_toUpper_1 zkb97 ?_
  refine g_icmp_lt hK ha1 zc97 (tgt := 22) (by decide) d4_toUpper_3 (fun _ => ?_) (fun _ => ?_)
  · refine g_iload_n hK 0 rfl rfl d4_toUpper_22 ?_
    exact g_iret hK ha1 rfl rfl d4_toUpper_23
  · refine g_iload_n hK 0 rfl rfl d4_toUpper_6 ?_
    refine g_bipush hK d4_toUpper_7 zkb122 ?_
    refine g_icmp_gt hK ha1 zc122 (tgt := 22) (by decide) d4_toUpper_9 (fun _ => ?_) (fun _ => ?_)
    · refine g_iload_n hK 0 rfl rfl d4_toUpper_22 ?_
      exact g_iret hK ha1 rfl rfl d4_toUpper_23
    · refine g_iload_n hK 0 rfl rfl d4_toUpper_12 ?_
      refine g_bipush hK d4_toUpper_13 zkb97 ?_
      refine g_isub hK d4_toUpper_15 (fun v1 hv1 => ?_)
      refine g_bipush hK d4_toUpper_16 zkb65 ?_
      refine g_iadd hK d4_toUpper_18 (fun v2 hv2 => ?_)
      refine g_goto hK (tgt := 23) (by decide) d4_toUpper_19 ?_
      exact g_iret hK hv2 rfl rfl d4_toUpper_23
set_option maxRecDepth 20000 in
theorem c4_toLower (l : Launch) (hst : l.stackTraces = false) (Z : zZ) (a1 : Int) (μ : zM) (ha1 : zr a1) : ∀ x, f4_toLower a1 = some x → zCt l Z (zΩ Z) y4_toLower (zws (.code y4_toLower b4_toLower 1 (some .int))) rm4_toLower [.int (zi a1)] μ (zeP mkI μ x) := by
  intro x h
  refine zCt.of (enc := (zeP mkI μ)) h (by decide) hst (Nat.le_of_ble_eq_true rfl) (fun K hK0 hex hl _ => ?_)
  subst hl
  have hcx : zOk K Z b4_toLower RX4 1 (some .int) 0 8 0 0 ∧ ∀ x ∈ K.2.2.2.2.2.2.2.2.2.exceptionTable.toList, False := ⟨hK0, hex⟩
  have hK := hcx.1
  show zG K Z (zΩ Z) (zF K Z (zΩ Z) (zeP mkI μ)) 0 0 0 [(0, .int (zi a1))] [] μ (f4_toLower a1)
  unfold f4_toLower
  refine g_iload_n hK 0 rfl rfl d4_toLower_0 ?_
  refine g_bipush hK d4_toLower_1 zkb65 ?_
  refine g_icmp_lt hK ha1 zc65 (tgt := 22) (by decide) d4_toLower_3 (fun _ => ?_) (fun _ => ?_)
  · refine g_iload_n hK 0 rfl rfl d4_toLower_22 ?_
    exact g_iret hK ha1 rfl rfl d4_toLower_23
  · refine g_iload_n hK 0 rfl rfl d4_toLower_6 ?_
    refine g_bipush hK d4_toLower_7 zkb90 ?_
    refine g_icmp_gt hK ha1 zc90 (tgt := 22) (by decide) d4_toLower_9 (fun _ => ?_) (fun _ => ?_)
    · refine g_iload_n hK 0 rfl rfl d4_toLower_22 ?_
      exact g_iret hK ha1 rfl rfl d4_toLower_23
    · refine g_iload_n hK 0 rfl rfl d4_toLower_12 ?_
      refine g_bipush hK d4_toLower_13 zkb65 ?_
      refine g_isub hK d4_toLower_15 (fun v1 hv1 => ?_)
      refine g_bipush hK d4_toLower_16 zkb97 ?_
      refine g_iadd hK d4_toLower_18 (fun v2 hv2 => ?_)
      refine g_goto hK (tgt := 23) (by decide) d4_toLower_19 ?_
      exact g_iret hK hv2 rfl rfl d4_toLower_23
set_option maxRecDepth 20000 in
theorem p4_digitAhead_5 {K : zK} {Z : zZ} (hcx : zOk K Z b4_digitAhead RX4 6 (some .int) 0 8 0 0 ∧ ∀ x ∈ K.2.2.2.2.2.2.2.2.2.exceptionTable.toList, False) (a1 : Int) (a2 : Int) (μ : zM) (ha1 : zr64 a1) (ha2 : zr a2) (k5 : Int → Int → Option Int) (hk5 : ∀ (x3 : Int) (x5 : Int) (hx3 : zr64 x3) (hx5 : zr x5), zG K Z (zΩ Z) (zF K Z (zΩ Z) (zeP mkI μ)) 0 0 5 [(2, .int (zi a2)), (3, .long (zl x3)), (5, .int (zi x5))] [] μ (k5 x3 x5)) (x3 : Int) (x5 : Int) (hx3 : zr64 x3) (hx5 : zr x5) : zG K Z (zΩ Z) (zF K Z (zΩ Z) (zeP mkI μ)) 0 0 5 [(2, .int (zi a2)), (3, .long (zl x3)), (5, .int (zi x5))] [] μ (f4_digitAhead_5 a1 a2 k5 x3 x5) := by
  obtain ⟨hK, hex⟩ := id hcx
  unfold f4_digitAhead_5
  refine g_iload hK 2 rfl d4_digitAhead_5 ?_
  refine g_iload_n hK 0 rfl rfl d4_digitAhead_7 ?_
  refine g_icmp_ge hK hx5 ha2 (tgt := 23) (by decide) d4_digitAhead_8 (fun _ => ?_) (fun _ => ?_)
  · refine g_bipush hK d4_digitAhead_23 zkb48 ?_
    refine g_lload_n hK 1 rfl rfl d4_digitAhead_25 ?_
    refine g_ldc2 hK (v := 10) q_568 d4_digitAhead_26 ?_
    refine g_lrem hK d4_digitAhead_29 zcL10 (by decide) (fun w1 hw1 => ?_)
    refine g_l2i hK d4_digitAhead_30 (fun v1 hv1 => ?_)
    refine g_iadd hK d4_digitAhead_31 (fun v2 hv2 => ?_)
    exact g_iret hK hv2 rfl rfl d4_digitAhead_32
  · refine g_lload_n hK 1 rfl rfl d4_digitAhead_11 ?_
    refine g_ldc2 hK (v := 10) q_568 d4_digitAhead_12 ?_
    refine g_ldiv hK d4_digitAhead_15 zcL10 (by decide) (fun w2 hw2 => ?_)
    refine g_lstore_n hK (lv2 := [(2, .int (zi a2)), (3, .long (zl w2)), (5, .int (zi x5))]) [1, 0, 2] rfl rfl (by decide) d4_digitAhead_16 ?_
    refine g_iinc hK (lv2 := fun v3 => [(2, .int (zi a2)), (3, .long (zl w2)), (5, .int (zi v3))]) 2 rfl [1, 2, 0] (fun _ => rfl) (by decide) d4_digitAhead_17 (fun v3 hv3 => ?_)
    refine g_goto hK (tgt := 5) (by decide) d4_digitAhead_20 ?_
    exact hk5 w2 v3  hw2 hv3
set_option maxRecDepth 20000 in
theorem l4_digitAhead_5 {K : zK} {Z : zZ} (hcx : zOk K Z b4_digitAhead RX4 6 (some .int) 0 8 0 0 ∧ ∀ x ∈ K.2.2.2.2.2.2.2.2.2.exceptionTable.toList, False) (a1 : Int) (a2 : Int) (μ : zM) (ha1 : zr64 a1) (ha2 : zr a2) : ∀ (i9 : Nat) (x3 : Int) (x5 : Int) (hx3 : zr64 x3) (hx5 : zr x5), zG K Z (zΩ Z) (zF K Z (zΩ Z) (zeP mkI μ)) 0 0 5 [(2, .int (zi a2)), (3, .long (zl x3)), (5, .int (zi x5))] [] μ (zfx (f4_digitAhead_5 a1 a2) (fun _ _ => none) i9 x3 x5) := by
  intro i9
  induction i9 with
  | zero => intro x3 x5 hx3 hx5; exact g_none
  | succ i9 ih => intro x3 x5 hx3 hx5; exact p4_digitAhead_5 hcx a1 a2 μ ha1 ha2  (zfx (f4_digitAhead_5 a1 a2) (fun _ _ => none) i9) ih x3 x5 hx3 hx5
set_option maxRecDepth 20000 in
theorem c4_digitAhead (l : Launch) (hst : l.stackTraces = false) (Z : zZ) (a1 : Int) (a2 : Int) (μ : zM) (ha1 : zr64 a1) (ha2 : zr a2) : ∀ x, f4_digitAhead a1 a2 = some x → zCt l Z (zΩ Z) y4_digitAhead (zws (.code y4_digitAhead b4_digitAhead 6 (some .int))) rm4_digitAhead [.long (zl a1), .int (zi a2)] μ (zeP mkI μ x) := by
  intro x h
  refine zCt.of (enc := (zeP mkI μ)) h (by decide) hst (Nat.le_of_ble_eq_true rfl) (fun K hK0 hex hl _ => ?_)
  subst hl
  have hcx : zOk K Z b4_digitAhead RX4 6 (some .int) 0 8 0 0 ∧ ∀ x ∈ K.2.2.2.2.2.2.2.2.2.exceptionTable.toList, False := ⟨hK0, hex⟩
  have hK := hcx.1
  show zG K Z (zΩ Z) (zF K Z (zΩ Z) (zeP mkI μ)) 0 0 0 [(0, .long (zl a1)), (2, .int (zi a2))] [] μ (f4_digitAhead a1 a2)
  unfold f4_digitAhead
  refine g_lload_n hK 0 rfl rfl d4_digitAhead_0 ?_
  refine g_lstore_n hK (lv2 := [(0, .long (zl a1)), (2, .int (zi a2)), (3, .long (zl a1))]) [1, 2, 0] rfl rfl (by decide) d4_digitAhead_1 ?_
  refine g_iconst hK d4_digitAhead_2 zki0 ?_
  refine g_istore hK (lv2 := [(0, .long (zl a1)), (2, .int (zi a2)), (3, .long (zl a1)), (5, .int (zi 0))]) [1, 2, 3, 0] rfl (by decide) d4_digitAhead_3 ?_
  refine g_lv (lv2 := [(2, .int (zi a2)), (3, .long (zl a1)), (5, .int (zi 0))]) [1, 2, 3] rfl ?_
  exact l4_digitAhead_5 hcx a1 a2 μ ha1 ha2  zFu a1 0  ha1 zc0
set_option maxRecDepth 20000 in
theorem c4_changedByte (l : Launch) (hst : l.stackTraces = false) (Z : zZ) (a1 : Int) (a2 : Int) (a3 : Int) (μ : zM) (ha1 : zr a1) (ha2 : zr a2) (ha3 : zr a3) : ∀ x, f4_changedByte a1 a2 a3 μ = some x → zCt l Z (zΩ Z) y4_changedByte (zws (.code y4_changedByte b4_changedByte 6 (some .int))) rm4_changedByte [.ref (Z.2.2.1 + 200), .int (zi a1), .int (zi a2), .int (zi a3)] μ (zeP mkI μ x) := by
  intro x h
  refine zCt.of (enc := (zeP mkI μ)) h (by decide) hst (Nat.le_of_ble_eq_true rfl) (fun K hK0 hex hl _ => ?_)
  subst hl
  have hcx : zOk K Z b4_changedByte RX4 6 (some .int) 1 33 0 0 ∧ ∀ x ∈ K.2.2.2.2.2.2.2.2.2.exceptionTable.toList, False := ⟨hK0, hex⟩
  have hK := hcx.1
  show zG K Z (zΩ Z) (zF K Z (zΩ Z) (zeP mkI μ)) 0 0 0 [(0, .ref (Z.2.2.1 + 200)), (1, .int (zi a1)), (2, .int (zi a2)), (3, .int (zi a3))] [] μ (f4_changedByte a1 a2 a3 μ)
  unfold f4_changedByte
  refine g_aload_n hK 0 rfl rfl d4_changedByte_0 ?_
  refine g_getM hK zfin_4 (fa_4_0 kc_200) q_228 (w := 2) (by decide) d4_changedByte_1 (fun hm1 => ?_)
  refine g_getR hK zfin_2 (fa_2_4 hm1) q_58 (pt_2_fields hm1) d4_changedByte_4 ?_
  refine g_iload_n hK 1 rfl rfl d4_changedByte_7 ?_
  refine g_iald hK (pt_2_fields_k hm1) d4_changedByte_8 (fun _ hl1 => ?_)
  refine g_ltI hl1 (fun v1 hv1 => ?_)
  refine g_istore hK (lv2 := [(0, .ref (Z.2.2.1 + 200)), (1, .int (zi a1)), (2, .int (zi a2)), (3, .int (zi a3)), (4, .int (zi v1))]) [1, 2, 3, 4, 0] rfl (by decide) d4_changedByte_9 ?_
  refine g_iload hK 4 rfl d4_changedByte_11 ?_
  refine g_sipush hK d4_changedByte_13 zks400 ?_
  refine g_imul hK d4_changedByte_16 (fun v2 hv2 => ?_)
  refine g_istore hK (lv2 := [(0, .ref (Z.2.2.1 + 200)), (1, .int (zi a1)), (2, .int (zi a2)), (3, .int (zi a3)), (4, .int (zi v1)), (5, .int (zi v2))]) [1, 2, 3, 4, 5, 0] rfl (by decide) d4_changedByte_17 ?_
  refine g_aload_n hK 0 rfl rfl d4_changedByte_19 ?_
  refine g_getM hK zfin_4 (fa_4_0 kc_200) q_228 (w := 2) (by decide) d4_changedByte_20 (fun hm2 => ?_)
  refine g_getR hK zfin_2 (fa_2_5 hm2) q_62 (pt_2_changes hm2) d4_changedByte_23 ?_
  refine g_iload_n hK 1 rfl rfl d4_changedByte_26 ?_
  refine g_iald hK (pt_2_changes_k hm2) d4_changedByte_27 (fun _ hl2 => ?_)
  refine g_ltI hl2 (fun v3 hv3 => ?_)
  refine g_case (fun hs1 => ?_) (fun hs1 => ?_)
  · refine g_tabIn hK (v := 1) (tgt := 64) hv3 hs1 (by decide) (by decide) rfl (by decide) d4_changedByte_28 ?_
    refine g_aload_n hK 0 rfl rfl d4_changedByte_64 ?_
    refine g_getR hK zfin_4 (fa_4_11 kc_200) q_249 (r := 207) (by decide +kernel) d4_changedByte_65 ?_
    refine g_iload hK 5 rfl d4_changedByte_68 ?_
    refine g_iload_n hK 2 rfl rfl d4_changedByte_70 ?_
    refine g_iadd hK d4_changedByte_71 (fun v4 hv4 => ?_)
    refine g_iald hK kc_207 d4_changedByte_72 (fun _ hl3 => ?_)
    refine g_callSco hK (mk := mkI) (rm := rm4_toUpper) (cb := 0) (sb := 0) (As := [.int (zi (zI μ 207 (zx v4)))]) (n := 1) (c4_toUpper K.2.1 hK.2.2.2.2.2.2.2.2.1 Z (zI μ 207 (zx v4)) μ hl3) q_621 q_622 q_6 q_623 rfl (by decide +kernel) (by decide) (Nat.le_of_ble_eq_true rfl) (Nat.le_of_ble_eq_true rfl) (Nat.le_of_ble_eq_true rfl) rfl d4_changedByte_73 (fun r1 hr1 hpr1 => ?_)
    exact g_iret hK hpr1 rfl rfl d4_changedByte_76
  refine g_case (fun hs2 => ?_) (fun hs2 => ?_)
  · refine g_tabIn hK (v := 2) (tgt := 77) hv3 hs2 (by decide) (by decide) rfl (by decide) d4_changedByte_28 ?_
    refine g_aload_n hK 0 rfl rfl d4_changedByte_77 ?_
    refine g_getR hK zfin_4 (fa_4_11 kc_200) q_249 (r := 207) (by decide +kernel) d4_changedByte_78 ?_
    refine g_iload hK 5 rfl d4_changedByte_81 ?_
    refine g_iload_n hK 2 rfl rfl d4_changedByte_83 ?_
    refine g_iadd hK d4_changedByte_84 (fun v5 hv5 => ?_)
    refine g_iald hK kc_207 d4_changedByte_85 (fun _ hl4 => ?_)
    refine g_callSco hK (mk := mkI) (rm := rm4_toLower) (cb := 0) (sb := 0) (As := [.int (zi (zI μ 207 (zx v5)))]) (n := 1) (c4_toLower K.2.1 hK.2.2.2.2.2.2.2.2.1 Z (zI μ 207 (zx v5)) μ hl4) q_624 q_625 q_6 q_626 rfl (by decide +kernel) (by decide) (Nat.le_of_ble_eq_true rfl) (Nat.le_of_ble_eq_true rfl) (Nat.le_of_ble_eq_true rfl) rfl d4_changedByte_86 (fun r2 hr2 hpr2 => ?_)
    exact g_iret hK hpr2 rfl rfl d4_changedByte_89
  refine g_case (fun hs3 => ?_) (fun hs3 => ?_)
  · refine g_tabIn hK (v := 3) (tgt := 90) hv3 hs3 (by decide) (by decide) rfl (by decide) d4_changedByte_28 ?_
    refine g_aload_n hK 0 rfl rfl d4_changedByte_90 ?_
    refine g_getR hK zfin_4 (fa_4_11 kc_200) q_249 (r := 207) (by decide +kernel) d4_changedByte_91 ?_
    refine g_iload hK 5 rfl d4_changedByte_94 ?_
    refine g_iload_n hK 3 rfl rfl d4_changedByte_96 ?_
    refine g_iadd hK d4_changedByte_97 (fun v6 hv6 => ?_)
    refine g_iald hK kc_207 d4_changedByte_98 (fun _ hl5 => ?_)
    exact g_iret hK hl5 rfl rfl d4_changedByte_99
  refine g_case (fun hs4 => ?_) (fun hs4 => ?_)
  · refine g_tabIn hK (v := 4) (tgt := 112) hv3 hs4 (by decide) (by decide) rfl (by decide) d4_changedByte_28 ?_
    refine g_aload_n hK 0 rfl rfl d4_changedByte_112 ?_
    refine g_getR hK zfin_4 (fa_4_11 kc_200) q_249 (r := 207) (by decide +kernel) d4_changedByte_113 ?_
    refine g_iload hK 5 rfl d4_changedByte_116 ?_
    refine g_iload_n hK 2 rfl rfl d4_changedByte_118 ?_
    refine g_iadd hK d4_changedByte_119 (fun v7 hv7 => ?_)
    refine g_iald hK kc_207 d4_changedByte_120 (fun _ hl6 => ?_)
    exact g_iret hK hl6 rfl rfl d4_changedByte_121
  refine g_case (fun hs5 => ?_) (fun hs5 => ?_)
  · refine g_tabIn hK (v := 5) (tgt := 100) hv3 hs5 (by decide) (by decide) rfl (by decide) d4_changedByte_28 ?_
    refine g_aload_n hK 0 rfl rfl d4_changedByte_100 ?_
    refine g_getR hK zfin_4 (fa_4_7 kc_200) q_241 (r := 205) (by decide +kernel) d4_changedByte_101 ?_
    refine g_iload hK 4 rfl d4_changedByte_104 ?_
    refine g_lald hK kc_205 d4_changedByte_106 (fun _ hl7 => ?_)
    refine g_iload_n hK 3 rfl rfl d4_changedByte_107 ?_
    refine g_callSco hK (mk := mkI) (rm := rm4_digitAhead) (cb := 0) (sb := 0) (As := [.long (zl (zL μ 205 (zx v1))), .int (zi a3)]) (n := 2) (c4_digitAhead K.2.1 hK.2.2.2.2.2.2.2.2.1 Z (zL μ 205 (zx v1)) a3 μ hl7 ha3) q_627 q_628 q_6 q_629 rfl (by decide +kernel) (by decide) (Nat.le_of_ble_eq_true rfl) (Nat.le_of_ble_eq_true rfl) (Nat.le_of_ble_eq_true rfl) rfl d4_changedByte_108 (fun r3 hr3 hpr3 => ?_)
    exact g_iret hK hpr3 rfl rfl d4_changedByte_111
  refine g_tabOut hK (tgt := 112) hv3 (by omega) (by decide) d4_changedByte_28 ?_
  refine g_aload_n hK 0 rfl rfl d4_changedByte_112 ?_
  refine g_getR hK zfin_4 (fa_4_11 kc_200) q_249 (r := 207) (by decide +kernel) d4_changedByte_113 ?_
  refine g_iload hK 5 rfl d4_changedByte_116 ?_
  refine g_iload_n hK 2 rfl rfl d4_changedByte_118 ?_
  refine g_iadd hK d4_changedByte_119 (fun v8 hv8 => ?_)
  refine g_iald hK kc_207 d4_changedByte_120 (fun _ hl8 => ?_)
  exact g_iret hK hl8 rfl rfl d4_changedByte_121
set_option maxRecDepth 20000 in
theorem p4_renderPart_134 {K : zK} {Z : zZ} (hcx : zOk K Z b4_renderPart RX4 10 (none) 2 58 0 0 ∧ ∀ x ∈ K.2.2.2.2.2.2.2.2.2.exceptionTable.toList, False) (a1 : Int) (a2 : Nat) (a3 : Int) (ha1 : zr a1) (ha2 : zkd a2 = 100) (ha3 : zr a3) (k20 : Int → Int → Int → zM → Option zM) (hk20 : ∀ (x4 : Int) (x5 : Int) (x6 : Int) (μ : zM) (hx4 : zr x4) (hx5 : zr x5) (hx6 : zr x6), zG K Z (zΩ Z) (zF K Z (zΩ Z) zeM) 0 0 20 [(0, .ref (Z.2.2.1 + 200)), (1, .int (zi a1)), (2, .ref (Z.2.2.1 + a2)), (4, .int (zi x4)), (5, .int (zi x5)), (6, .int (zi x6))] [] μ (k20 x4 x5 x6 μ)) (k89 : Int → Int → Int → Int → Int → Int → zM → Option zM) (hk89 : ∀ (x4 : Int) (x5 : Int) (x6 : Int) (x7 : Int) (x8 : Int) (x9 : Int) (μ : zM) (hx4 : zr x4) (hx5 : zr x5) (hx6 : zr x6) (hx7 : zr x7) (hx8 : zr x8) (hx9 : zr x9), zG K Z (zΩ Z) (zF K Z (zΩ Z) zeM) 0 0 89 [(0, .ref (Z.2.2.1 + 200)), (1, .int (zi a1)), (2, .ref (Z.2.2.1 + a2)), (4, .int (zi x4)), (5, .int (zi x5)), (6, .int (zi x6)), (7, .int (zi x7)), (8, .int (zi x8)), (9, .int (zi x9))] [] μ (k89 x4 x5 x6 x7 x8 x9 μ)) (x4 : Int) (x5 : Int) (x6 : Int) (x7 : Int) (x8 : Int) (x9 : Int) (s0 : Int) (s1 : Int) (s2 : Nat) (μ : zM) (hx4 : zr x4) (hx5 : zr x5) (hx6 : zr x6) (hx7 : zr x7) (hx8 : zr x8) (hx9 : zr x9) (hs0 : zr s0) (hs1 : zr s1) (hs2 : zkd s2 = 100) : zG K Z (zΩ Z) (zF K Z (zΩ Z) zeM) 0 0 134 [(0, .ref (Z.2.2.1 + 200)), (1, .int (zi a1)), (2, .ref (Z.2.2.1 + a2)), (4, .int (zi x4)), (5, .int (zi x5)), (6, .int (zi x6)), (7, .int (zi x7)), (8, .int (zi x8)), (9, .int (zi x9))] [.int (zi s0), .int (zi s1), .ref (Z.2.2.1 + s2)] μ (f4_renderPart_134 a1 a2 a3 k20 k89 x4 x5 x6 x7 x8 x9 s0 s1 s2 μ) := by
  obtain ⟨hK, hex⟩ := id hcx
  unfold f4_renderPart_134
  refine g_iast hK hs0 hs2 d4_renderPart_134 (fun _ => ?_)
  refine g_ltM (fun m1 => ?_)
  refine g_iinc hK (lv2 := fun v13 => [(0, .ref (Z.2.2.1 + 200)), (1, .int (zi a1)), (2, .ref (Z.2.2.1 + a2)), (4, .int (zi v13)), (5, .int (zi x5)), (6, .int (zi x6)), (7, .int (zi x7)), (8, .int (zi x8)), (9, .int (zi x9))]) 3 rfl [1, 2, 3, 0, 4, 5, 6, 7, 8] (fun _ => rfl) (by decide) d4_renderPart_135 (fun v13 hv13 => ?_)
  refine g_iinc hK (lv2 := fun v14 => [(0, .ref (Z.2.2.1 + 200)), (1, .int (zi a1)), (2, .ref (Z.2.2.1 + a2)), (4, .int (zi v13)), (5, .int (zi x5)), (6, .int (zi x6)), (7, .int (zi x7)), (8, .int (zi x8)), (9, .int (zi v14))]) 8 rfl [1, 2, 3, 4, 5, 6, 7, 8, 0] (fun _ => rfl) (by decide) d4_renderPart_138 (fun v14 hv14 => ?_)
  refine g_goto hK (tgt := 89) (by decide) d4_renderPart_141 ?_
  exact hk89 v13 x5 x6 x7 x8 v14 m1 hv13 hx5 hx6 hx7 hx8 hv14
