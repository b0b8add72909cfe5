set_option maxRecDepth 20000 in
theorem l7_readName_39 {K : zK} {Z : zZ} (hcx : zOk K Z b7_readName RX7 3 (some .boolean) 3 70 0 0 ∧ ∀ x ∈ K.2.2.2.2.2.2.2.2.2.exceptionTable.toList, False) : ∀ (i9 : Nat) (x1 : Int) (x2 : Int) (μ : zM) (hx1 : zr x1) (hx2 : zr x2), zG K Z (zΩ Z) (zF K Z (zΩ Z) (ze2 mkZ)) 0 0 39 [(0, .ref (Z.2.2.1 + 292)), (1, .int (zi x1)), (2, .int (zi x2))] [] μ (zfx (f7_readName_39) (fun _ _ _ => none) i9 x1 x2 μ) := by
  intro i9
  induction i9 with
  | zero => intro x1 x2 μ hx1 hx2; exact g_none
  | succ i9 ih => intro x1 x2 μ hx1 hx2; exact p7_readName_39 hcx  (zfx (f7_readName_39) (fun _ _ _ => none) i9) ih x1 x2 μ hx1 hx2
set_option maxRecDepth 20000 in
theorem c7_readName (l : Launch) (hst : l.stackTraces = false) (Z : zZ) (μ : zM) : ∀ x, f7_readName μ = some x → zCt l Z (zΩ Z) y7_readName (zws (.code y7_readName b7_readName 3 (some .boolean))) rm7_readName [.ref (Z.2.2.1 + 292)] μ (ze2 mkZ x) := by
  intro x h
  refine zCt.of (enc := (ze2 mkZ)) h (by decide) hst (Nat.le_of_ble_eq_true rfl) (fun K hK0 hex hl _ => ?_)
  subst hl
  have hcx : zOk K Z b7_readName RX7 3 (some .boolean) 3 70 0 0 ∧ ∀ x ∈ K.2.2.2.2.2.2.2.2.2.exceptionTable.toList, False := ⟨hK0, hex⟩
  have hK := hcx.1
  show zG K Z (zΩ Z) (zF K Z (zΩ Z) (ze2 mkZ)) 0 0 0 [(0, .ref (Z.2.2.1 + 292))] [] μ (f7_readName μ)
  unfold f7_readName
  refine g_aload_n hK 0 rfl rfl d7_readName_0 ?_
  refine g_callVcm hK (rm := rm7_token) (cb := 0) (sb := 0) (As := []) (b := 292) (n := 0) (c7_token K.2.1 hK.2.2.2.2.2.2.2.2.1 Z  μ ) rfl (ci := 7) rfl (by decide) kc_292 q_1333 q_1335 qs_7_token q_7 q_1336 rfl (by decide +kernel) (by decide) (Nat.le_of_ble_eq_true rfl) (Nat.le_of_ble_eq_true rfl) (Nat.le_of_ble_eq_true rfl) rfl d7_readName_1 (fun m1 hm1 => ?_)
  refine g_aload_n hK 0 rfl rfl d7_readName_4 ?_
  refine g_getI hK zfin_7 (fa_7_16 kc_292) q_1213 d7_readName_5 (fun hf1 => ?_)
  refine g_aload_n hK 0 rfl rfl d7_readName_8 ?_
  refine g_getI hK zfin_7 (fa_7_15 kc_292) q_1212 d7_readName_9 (fun hf2 => ?_)
  refine g_isub hK d7_readName_12 (fun v1 hv1 => ?_)
  refine g_istore_n hK (lv2 := [(0, .ref (Z.2.2.1 + 292)), (1, .int (zi v1))]) [1, 0] rfl rfl (by decide) d7_readName_13 ?_
  refine g_aload_n hK 0 rfl rfl d7_readName_14 ?_
  refine g_getI hK zfin_7 (fa_7_17 kc_292) q_1214 d7_readName_15 (fun hf3 => ?_)
  refine g_if_eq hK hf3 (tgt := 27) (by decide) d7_readName_18 (fun _ => ?_) (fun _ => ?_)
  · refine g_lv (lv2 := [(0, .ref (Z.2.2.1 + 292))]) [0] rfl ?_
    exact p7_readName_27 hcx   m1 
  · refine g_iload_n hK 1 rfl rfl d7_readName_21 ?_
    refine g_bipush hK d7_readName_22 zkb8 ?_
    refine g_icmp_le hK hv1 zc8 (tgt := 37) (by decide) d7_readName_24 (fun _ => ?_) (fun _ => ?_)
    · refine g_iconst hK d7_readName_37 zki0 ?_
      refine g_istore_n hK (lv2 := [(0, .ref (Z.2.2.1 + 292)), (1, .int (zi v1)), (2, .int (zi 0))]) [1, 2, 0] rfl rfl (by decide) d7_readName_38 ?_
      exact l7_readName_39 hcx  zFu v1 0 m1 hv1 zc0
    · refine g_lv (lv2 := [(0, .ref (Z.2.2.1 + 292))]) [0] rfl ?_
      exact p7_readName_27 hcx   m1 
set_option maxRecDepth 20000 in
theorem c7_item (l : Launch) (hst : l.stackTraces = false) (Z : zZ) (a1 : Int) (μ : zM) (ha1 : zr a1) : ∀ x, f7_item a1 μ = some x → zCt l Z (zΩ Z) y7_item (zws (.code y7_item b7_item 2 (none))) rm7_item [.ref (Z.2.2.1 + 292), .int (zi a1)] μ (zeM x) := by
  intro x h
  refine zCt.of (enc := zeM) h (by decide) hst (Nat.le_of_ble_eq_true rfl) (fun K hK0 hex hl _ => ?_)
  subst hl
  have hcx : zOk K Z b7_item RX7 2 (none) 0 8 0 0 ∧ ∀ x ∈ K.2.2.2.2.2.2.2.2.2.exceptionTable.toList, False := ⟨hK0, hex⟩
  have hK := hcx.1
  show zG K Z (zΩ Z) (zF K Z (zΩ Z) zeM) 0 0 0 [(0, .ref (Z.2.2.1 + 292)), (1, .int (zi a1))] [] μ (f7_item a1 μ)
  unfold f7_item
  refine g_aload_n hK 0 rfl rfl d7_item_0 ?_
  refine g_getM hK zfin_7 (fa_7_13 kc_292) q_1210 (w := 6) (by decide) d7_item_1 (fun hm1 => ?_)
  refine g_getRN hK zfin_6 (fa_6_5 hm1) qn_1147 (pt_6_items hm1) d7_item_4 ?_
  refine g_aload_n hK 0 rfl rfl d7_item_7 ?_
  refine g_getI hK zfin_7 (fa_7_20 kc_292) q_1217 d7_item_8 (fun hf1 => ?_)
  refine g_iload_n hK 1 rfl rfl d7_item_11 ?_
  refine g_iast hK ha1 (pt_6_items_k hm1) d7_item_12 (fun _ => ?_)
  refine g_ltM (fun m1 => ?_)
  refine g_aload_n hK 0 rfl rfl d7_item_13 ?_
  refine g_dup hK d7_item_14 rfl ?_
  refine g_getI hK zfin_7 (fa_7_20 kc_292) q_1217 d7_item_15 (fun hf2 => ?_)
  refine g_iconst hK d7_item_18 zki1 ?_
  refine g_iadd hK d7_item_19 (fun v1 hv1 => ?_)
  refine g_putI hK zfin_7 (fa_7_20 kc_292) q_1217 hv1 rfl (tyX7_ok 20 (by decide)) tyX7 tyX7_ok nmX7 d7_item_20 ?_
  refine g_ltM (fun m2 => ?_)
  exact g_vret hK rfl rfl d7_item_23
set_option maxRecDepth 20000 in
theorem p7_turnsBack_16 {K : zK} {Z : zZ} (hcx : zOk K Z b7_turnsBack RX7 6 (some .boolean) 1 29 0 0 ∧ ∀ x ∈ K.2.2.2.2.2.2.2.2.2.exceptionTable.toList, False) (a1 : Int) (μ : zM) (ha1 : zr a1) (k16 : Int → Int → Int → Option Bool) (hk16 : ∀ (x2 : Int) (x3 : Int) (x4 : Int) (hx2 : zr x2) (hx3 : zr x3) (hx4 : zr x4), zG K Z (zΩ Z) (zF K Z (zΩ Z) (zeP mkZ μ)) 0 0 16 [(0, .ref (Z.2.2.1 + 292)), (1, .int (zi a1)), (2, .int (zi x2)), (3, .int (zi x3)), (4, .int (zi x4))] [] μ (k16 x2 x3 x4)) (x2 : Int) (x3 : Int) (x4 : Int) (hx2 : zr x2) (hx3 : zr x3) (hx4 : zr x4) : zG K Z (zΩ Z) (zF K Z (zΩ Z) (zeP mkZ μ)) 0 0 16 [(0, .ref (Z.2.2.1 + 292)), (1, .int (zi a1)), (2, .int (zi x2)), (3, .int (zi x3)), (4, .int (zi x4))] [] μ (f7_turnsBack_16 a1 μ k16 x2 x3 x4) := by
  obtain ⟨hK, hex⟩ := id hcx
  unfold f7_turnsBack_16
  refine g_iload hK 4 rfl d7_turnsBack_16 ?_
  refine g_aload_n hK 0 rfl rfl d7_turnsBack_18 ?_
  refine g_getI hK zfin_7 (fa_7_19 kc_292) q_1216 d7_turnsBack_19 (fun hf2 => ?_)
  refine g_icmp_ge hK hx4 hf2 (tgt := 94) (by decide) d7_turnsBack_22 (fun _ => ?_) (fun _ => ?_)
  · refine g_iload_n hK 2 rfl rfl d7_turnsBack_94 ?_
    refine g_gd (fun hb1 => ?_)
    exact g_zret hK hb1 (by simp only [zeP, ze2, zeX, mkZ, zb_dec hb1]) rfl d7_turnsBack_95
  · refine g_aload_n hK 0 rfl rfl d7_turnsBack_25 ?_
    refine g_getM hK zfin_7 (fa_7_13 kc_292) q_1210 (w := 6) (by decide) d7_turnsBack_26 (fun hm2 => ?_)
    refine g_getRN hK zfin_6 (fa_6_7 hm2) qn_1151 (pt_6_field hm2) d7_turnsBack_29 ?_
    refine g_bipush hK d7_turnsBack_32 zkb60 ?_
    refine g_aload_n hK 0 rfl rfl d7_turnsBack_34 ?_
    refine g_getM hK zfin_7 (fa_7_13 kc_292) q_1210 (w := 6) (by decide) d7_turnsBack_35 (fun hm3 => ?_)
    refine g_getIN hK zfin_6 (fa_6_0 hm3) qn_1138 d7_turnsBack_38 (fun hf3 => ?_)
    refine g_imul hK d7_turnsBack_41 (fun v2 hv2 => ?_)
    refine g_aload_n hK 0 rfl rfl d7_turnsBack_42 ?_
    refine g_getR hK zfin_7 (fa_7_18 kc_292) q_1215 (r := 328) (by decide +kernel) d7_turnsBack_43 ?_
    refine g_iload hK 4 rfl d7_turnsBack_46 ?_
    refine g_iald hK kc_328 d7_turnsBack_48 (fun _ hl1 => ?_)
    refine g_iadd hK d7_turnsBack_49 (fun v3 hv3 => ?_)
    refine g_iald hK (pt_6_field_k hm2) d7_turnsBack_50 (fun _ hl2 => ?_)
    refine g_ltI hl2 (fun v4 hv4 => ?_)
    refine g_istore hK (lv2 := [(0, .ref (Z.2.2.1 + 292)), (1, .int (zi a1)), (2, .int (zi x2)), (3, .int (zi x3)), (4, .int (zi x4)), (5, .int (zi v4))]) [1, 2, 3, 4, 5, 0] rfl (by decide) d7_turnsBack_51 ?_
    refine g_iload_n hK 2 rfl rfl d7_turnsBack_53 ?_
    refine g_if_ne hK hx2 (tgt := 82) (by decide) d7_turnsBack_54 (fun _ => ?_) (fun _ => ?_)
    · refine g_iconst hK d7_turnsBack_82 zki1 ?_
      refine g_goto hK (tgt := 87) (by decide) d7_turnsBack_83 ?_
      refine g_istore_n hK (lv2 := [(0, .ref (Z.2.2.1 + 292)), (1, .int (zi a1)), (2, .int (zi 1)), (3, .int (zi x3)), (4, .int (zi x4)), (5, .int (zi v4))]) [1, 2, 0, 3, 4, 5] rfl rfl (by decide) d7_turnsBack_87 ?_
      refine g_iinc hK (lv2 := fun v5 => [(0, .ref (Z.2.2.1 + 292)), (1, .int (zi a1)), (2, .int (zi 1)), (3, .int (zi x3)), (4, .int (zi v5)), (5, .int (zi v4))]) 4 rfl [1, 2, 3, 4, 0, 5] (fun _ => rfl) (by decide) d7_turnsBack_88 (fun v5 hv5 => ?_)
      refine g_goto hK (tgt := 16) (by decide) d7_turnsBack_91 ?_
      refine g_lv (lv2 := [(0, .ref (Z.2.2.1 + 292)), (1, .int (zi a1)), (2, .int (zi 1)), (3, .int (zi x3)), (4, .int (zi v5))]) [0, 1, 2, 3, 4] rfl ?_
      exact hk16 1 x3 v5  zc1 hx3 hv5
    · refine g_iload hK 5 rfl d7_turnsBack_57 ?_
      refine g_iload_n hK 1 rfl rfl d7_turnsBack_59 ?_
      refine g_icmp_eq hK hv4 ha1 (tgt := 82) (by decide) d7_turnsBack_60 (fun _ => ?_) (fun _ => ?_)
      · refine g_iconst hK d7_turnsBack_82 zki1 ?_
        refine g_goto hK (tgt := 87) (by decide) d7_turnsBack_83 ?_
        refine g_istore_n hK (lv2 := [(0, .ref (Z.2.2.1 + 292)), (1, .int (zi a1)), (2, .int (zi 1)), (3, .int (zi x3)), (4, .int (zi x4)), (5, .int (zi v4))]) [1, 2, 0, 3, 4, 5] rfl rfl (by decide) d7_turnsBack_87 ?_
        refine g_iinc hK (lv2 := fun v6 => [(0, .ref (Z.2.2.1 + 292)), (1, .int (zi a1)), (2, .int (zi 1)), (3, .int (zi x3)), (4, .int (zi v6)), (5, .int (zi v4))]) 4 rfl [1, 2, 3, 4, 0, 5] (fun _ => rfl) (by decide) d7_turnsBack_88 (fun v6 hv6 => ?_)
        refine g_goto hK (tgt := 16) (by decide) d7_turnsBack_91 ?_
        refine g_lv (lv2 := [(0, .ref (Z.2.2.1 + 292)), (1, .int (zi a1)), (2, .int (zi 1)), (3, .int (zi x3)), (4, .int (zi v6))]) [0, 1, 2, 3, 4] rfl ?_
        exact hk16 1 x3 v6  zc1 hx3 hv6
      · refine g_aload_n hK 0 rfl rfl d7_turnsBack_63 ?_
        refine g_getM hK zfin_7 (fa_7_13 kc_292) q_1210 (w := 6) (by decide) d7_turnsBack_64 (fun hm4 => ?_)
        refine g_getRN hK zfin_6 (fa_6_14 hm4) qn_1165 (pt_6_depends hm4) d7_turnsBack_67 ?_
        refine g_iload_n hK 3 rfl rfl d7_turnsBack_70 ?_
        refine g_iload_n hK 1 rfl rfl d7_turnsBack_71 ?_
        refine g_iadd hK d7_turnsBack_72 (fun v7 hv7 => ?_)
        refine g_iald hK (pt_6_depends_k hm4) d7_turnsBack_73 (fun _ hl3 => ?_)
        refine g_iload hK 5 rfl d7_turnsBack_74 ?_
        refine g_callSco hK (mk := mkZ) (rm := rm7_has) (cb := 0) (sb := 0) (As := [.int (zi (zI μ ((zR μ 292 13) + 13) (zx v7))), .int (zi v4)]) (n := 2) (c7_has K.2.1 hK.2.2.2.2.2.2.2.2.1 Z (zI μ ((zR μ 292 13) + 13) (zx v7)) v4 μ hl3 hv4) q_1390 q_1391 q_7 q_1392 rfl (by decide +kernel) (by decide) (Nat.le_of_ble_eq_true rfl) (Nat.le_of_ble_eq_true rfl) (Nat.le_of_ble_eq_true rfl) rfl d7_turnsBack_76 (fun r1 hr1 hpr1 => ?_)
        refine g_if_eq hK (zb_r r1) (tgt := 86) (by decide) d7_turnsBack_79 (fun _ => ?_) (fun _ => ?_)
        · refine g_iconst hK d7_turnsBack_86 zki0 ?_
          refine g_istore_n hK (lv2 := [(0, .ref (Z.2.2.1 + 292)), (1, .int (zi a1)), (2, .int (zi 0)), (3, .int (zi x3)), (4, .int (zi x4)), (5, .int (zi v4))]) [1, 2, 0, 3, 4, 5] rfl rfl (by decide) d7_turnsBack_87 ?_
          refine g_iinc hK (lv2 := fun v8 => [(0, .ref (Z.2.2.1 + 292)), (1, .int (zi a1)), (2, .int (zi 0)), (3, .int (zi x3)), (4, .int (zi v8)), (5, .int (zi v4))]) 4 rfl [1, 2, 3, 4, 0, 5] (fun _ => rfl) (by decide) d7_turnsBack_88 (fun v8 hv8 => ?_)
          refine g_goto hK (tgt := 16) (by decide) d7_turnsBack_91 ?_
          refine g_lv (lv2 := [(0, .ref (Z.2.2.1 + 292)), (1, .int (zi a1)), (2, .int (zi 0)), (3, .int (zi x3)), (4, .int (zi v8))]) [0, 1, 2, 3, 4] rfl ?_
          exact hk16 0 x3 v8  zc0 hx3 hv8
        · refine g_iconst hK d7_turnsBack_82 zki1 ?_
          refine g_goto hK (tgt := 87) (by decide) d7_turnsBack_83 ?_
          refine g_istore_n hK (lv2 := [(0, .ref (Z.2.2.1 + 292)), (1, .int (zi a1)), (2, .int (zi 1)), (3, .int (zi x3)), (4, .int (zi x4)), (5, .int (zi v4))]) [1, 2, 0, 3, 4, 5] rfl rfl (by decide) d7_turnsBack_87 ?_
          refine g_iinc hK (lv2 := fun v9 => [(0, .ref (Z.2.2.1 + 292)), (1, .int (zi a1)), (2, .int (zi 1)), (3, .int (zi x3)), (4, .int (zi v9)), (5, .int (zi v4))]) 4 rfl [1, 2, 3, 4, 0, 5] (fun _ => rfl) (by decide) d7_turnsBack_88 (fun v9 hv9 => ?_)
          refine g_goto hK (tgt := 16) (by decide) d7_turnsBack_91 ?_
          refine g_lv (lv2 := [(0, .ref (Z.2.2.1 + 292)), (1, .int (zi a1)), (2, .int (zi 1)), (3, .int (zi x3)), (4, .int (zi v9))]) [0, 1, 2, 3, 4] rfl ?_
          exact hk16 1 x3 v9  zc1 hx3 hv9
set_option maxRecDepth 20000 in
theorem l7_turnsBack_16 {K : zK} {Z : zZ} (hcx : zOk K Z b7_turnsBack RX7 6 (some .boolean) 1 29 0 0 ∧ ∀ x ∈ K.2.2.2.2.2.2.2.2.2.exceptionTable.toList, False) (a1 : Int) (μ : zM) (ha1 : zr a1) : ∀ (i9 : Nat) (x2 : Int) (x3 : Int) (x4 : Int) (hx2 : zr x2) (hx3 : zr x3) (hx4 : zr x4), zG K Z (zΩ Z) (zF K Z (zΩ Z) (zeP mkZ μ)) 0 0 16 [(0, .ref (Z.2.2.1 + 292)), (1, .int (zi a1)), (2, .int (zi x2)), (3, .int (zi x3)), (4, .int (zi x4))] [] μ (zfx (f7_turnsBack_16 a1 μ) (fun _ _ _ => none) i9 x2 x3 x4) := by
  intro i9
  induction i9 with
  | zero => intro x2 x3 x4 hx2 hx3 hx4; exact g_none
  | succ i9 ih => intro x2 x3 x4 hx2 hx3 hx4; exact p7_turnsBack_16 hcx a1 μ ha1  (zfx (f7_turnsBack_16 a1 μ) (fun _ _ _ => none) i9) ih x2 x3 x4 hx2 hx3 hx4
set_option maxRecDepth 20000 in
theorem c7_turnsBack (l : Launch) (hst : l.stackTraces = false) (Z : zZ) (a1 : Int) (μ : zM) (ha1 : zr a1) : ∀ x, f7_turnsBack a1 μ = some x → zCt l Z (zΩ Z) y7_turnsBack (zws (.code y7_turnsBack b7_turnsBack 6 (some .boolean))) rm7_turnsBack [.ref (Z.2.2.1 + 292), .int (zi a1)] μ (zeP mkZ μ x) := by
  intro x h
  refine zCt.of (enc := (zeP mkZ μ)) h (by decide) hst (Nat.le_of_ble_eq_true rfl) (fun K hK0 hex hl _ => ?_)
  subst hl
  have hcx : zOk K Z b7_turnsBack RX7 6 (some .boolean) 1 29 0 0 ∧ ∀ x ∈ K.2.2.2.2.2.2.2.2.2.exceptionTable.toList, False := ⟨hK0, hex⟩
  have hK := hcx.1
  show zG K Z (zΩ Z) (zF K Z (zΩ Z) (zeP mkZ μ)) 0 0 0 [(0, .ref (Z.2.2.1 + 292)), (1, .int (zi a1))] [] μ (f7_turnsBack a1 μ)
  unfold f7_turnsBack
  refine g_iconst hK d7_turnsBack_0 zki0 ?_
  refine g_istore_n hK (lv2 := [(0, .ref (Z.2.2.1 + 292)), (1, .int (zi a1)), (2, .int (zi 0))]) [1, 2, 0] rfl rfl (by decide) d7_turnsBack_1 ?_
  refine g_bipush hK d7_turnsBack_2 zkb10 ?_
  refine g_aload_n hK 0 rfl rfl d7_turnsBack_4 ?_
  refine g_getM hK zfin_7 (fa_7_13 kc_292) q_1210 (w := 6) (by decide) d7_turnsBack_5 (fun hm1 => ?_)
  refine g_getIN hK zfin_6 (fa_6_0 hm1) qn_1138 d7_turnsBack_8 (fun hf1 => ?_)
  refine g_imul hK d7_turnsBack_11 (fun v1 hv1 => ?_)
  refine g_istore_n hK (lv2 := [(0, .ref (Z.2.2.1 + 292)), (1, .int (zi a1)), (2, .int (zi 0)), (3, .int (zi v1))]) [1, 2, 3, 0] rfl rfl (by decide) d7_turnsBack_12 ?_
  refine g_iconst hK d7_turnsBack_13 zki0 ?_
  refine g_istore hK (lv2 := [(0, .ref (Z.2.2.1 + 292)), (1, .int (zi a1)), (2, .int (zi 0)), (3, .int (zi v1)), (4, .int (zi 0))]) [1, 2, 3, 4, 0] rfl (by decide) d7_turnsBack_14 ?_
  exact l7_turnsBack_16 hcx a1 μ ha1  zFu 0 v1 0  zc0 hv1 zc0
set_option maxRecDepth 20000 in
theorem p7_dependsOn_121 {K : zK} {Z : zZ} (hcx : zOk K Z b7_dependsOn RX7 7 (none) 1 29 0 0 ∧ ∀ x ∈ K.2.2.2.2.2.2.2.2.2.exceptionTable.toList, False) (a1 : Int) (ha1 : zr a1) (k13 : Int → Int → zM → Option zM) (hk13 : ∀ (x2 : Int) (x3 : Int) (μ : zM) (hx2 : zr x2) (hx3 : zr x3), zG K Z (zΩ Z) (zF K Z (zΩ Z) zeM) 0 0 13 [(0, .ref (Z.2.2.1 + 292)), (1, .int (zi a1)), (2, .int (zi x2)), (3, .int (zi x3))] [] μ (k13 x2 x3 μ)) (k68 : Int → Int → Int → Int → Int → zM → Option zM) (hk68 : ∀ (x2 : Int) (x3 : Int) (x4 : Int) (x5 : Int) (x6 : Int) (μ : zM) (hx2 : zr x2) (hx3 : zr x3) (hx4 : zr x4) (hx5 : zr x5) (hx6 : zr x6), zG K Z (zΩ Z) (zF K Z (zΩ Z) zeM) 0 0 68 [(0, .ref (Z.2.2.1 + 292)), (1, .int (zi a1)), (2, .int (zi x2)), (3, .int (zi x3)), (4, .int (zi x4)), (5, .int (zi x5)), (6, .int (zi x6))] [] μ (k68 x2 x3 x4 x5 x6 μ)) (x2 : Int) (x3 : Int) (x4 : Int) (x5 : Int) (x6 : Int) (s0 : Int) (s1 : Int) (s2 : Int) (s3 : Nat) (μ : zM) (hx2 : zr x2) (hx3 : zr x3) (hx4 : zr x4) (hx5 : zr x5) (hx6 : zr x6) (hs0 : zr s0) (hs1 : zr s1) (hs2 : zr s2) (hs3 : zkd s3 = 100) : zG K Z (zΩ Z) (zF K Z (zΩ Z) zeM) 0 0 121 [(0, .ref (Z.2.2.1 + 292)), (1, .int (zi a1)), (2, .int (zi x2)), (3, .int (zi x3)), (4, .int (zi x4)), (5, .int (zi x5)), (6, .int (zi x6))] [.int (zi s0), .int (zi s1), .int (zi s2), .ref (Z.2.2.1 + s3)] μ (f7_dependsOn_121 a1 k13 k68 x2 x3 x4 x5 x6 s0 s1 s2 s3 μ) := by
  obtain ⟨hK, hex⟩ := id hcx
  unfold f7_dependsOn_121
  refine g_ior hK d7_dependsOn_121 (fun v11 hv11 => ?_)
  refine g_iast hK hv11 hs3 d7_dependsOn_122 (fun _ => ?_)
  refine g_ltM (fun m1 => ?_)
  refine g_iinc hK (lv2 := fun v12 => [(0, .ref (Z.2.2.1 + 292)), (1, .int (zi a1)), (2, .int (zi x2)), (3, .int (zi x3)), (4, .int (zi x4)), (5, .int (zi x5)), (6, .int (zi v12))]) 6 rfl [1, 2, 3, 4, 5, 6, 0] (fun _ => rfl) (by decide) d7_dependsOn_123 (fun v12 hv12 => ?_)
  refine g_goto hK (tgt := 68) (by decide) d7_dependsOn_126 ?_
  exact hk68 x2 x3 x4 x5 v12 m1 hx2 hx3 hx4 hx5 hv12
set_option maxRecDepth 20000 in
theorem p7_dependsOn_68 {K : zK} {Z : zZ} (hcx : zOk K Z b7_dependsOn RX7 7 (none) 1 29 0 0 ∧ ∀ x ∈ K.2.2.2.2.2.2.2.2.2.exceptionTable.toList, False) (a1 : Int) (ha1 : zr a1) (k13 : Int → Int → zM → Option zM) (hk13 : ∀ (x2 : Int) (x3 : Int) (μ : zM) (hx2 : zr x2) (hx3 : zr x3), zG K Z (zΩ Z) (zF K Z (zΩ Z) zeM) 0 0 13 [(0, .ref (Z.2.2.1 + 292)), (1, .int (zi a1)), (2, .int (zi x2)), (3, .int (zi x3))] [] μ (k13 x2 x3 μ)) (k68 : Int → Int → Int → Int → Int → zM → Option zM) (hk68 : ∀ (x2 : Int) (x3 : Int) (x4 : Int) (x5 : Int) (x6 : Int) (μ : zM) (hx2 : zr x2) (hx3 : zr x3) (hx4 : zr x4) (hx5 : zr x5) (hx6 : zr x6), zG K Z (zΩ Z) (zF K Z (zΩ Z) zeM) 0 0 68 [(0, .ref (Z.2.2.1 + 292)), (1, .int (zi a1)), (2, .int (zi x2)), (3, .int (zi x3)), (4, .int (zi x4)), (5, .int (zi x5)), (6, .int (zi x6))] [] μ (k68 x2 x3 x4 x5 x6 μ)) (x2 : Int) (x3 : Int) (x4 : Int) (x5 : Int) (x6 : Int) (μ : zM) (hx2 : zr x2) (hx3 : zr x3) (hx4 : zr x4) (hx5 : zr x5) (hx6 : zr x6) : zG K Z (zΩ Z) (zF K Z (zΩ Z) zeM) 0 0 68 [(0, .ref (Z.2.2.1 + 292)), (1, .int (zi a1)), (2, .int (zi x2)), (3, .int (zi x3)), (4, .int (zi x4)), (5, .int (zi x5)), (6, .int (zi x6))] [] μ (f7_dependsOn_68 a1 k13 k68 x2 x3 x4 x5 x6 μ) := by
  obtain ⟨hK, hex⟩ := id hcx
  unfold f7_dependsOn_68
  refine g_iload hK 6 rfl d7_dependsOn_68 ?_
  refine g_bipush hK d7_dependsOn_70 zkb10 ?_
  refine g_icmp_ge hK hx6 zc10 (tgt := 129) (by decide) d7_dependsOn_72 (fun _ => ?_) (fun _ => ?_)
  · refine g_iinc hK (lv2 := fun v8 => [(0, .ref (Z.2.2.1 + 292)), (1, .int (zi a1)), (2, .int (zi x2)), (3, .int (zi v8)), (4, .int (zi x4)), (5, .int (zi x5)), (6, .int (zi x6))]) 3 rfl [1, 2, 3, 0, 4, 5, 6] (fun _ => rfl) (by decide) d7_dependsOn_129 (fun v8 hv8 => ?_)
    refine g_goto hK (tgt := 13) (by decide) d7_dependsOn_132 ?_
    refine g_lv (lv2 := [(0, .ref (Z.2.2.1 + 292)), (1, .int (zi a1)), (2, .int (zi x2)), (3, .int (zi v8))]) [0, 1, 2, 3] rfl ?_
    exact hk13 x2 v8 μ hx2 hv8
  · refine g_aload_n hK 0 rfl rfl d7_dependsOn_75 ?_
    refine g_getM hK zfin_7 (fa_7_13 kc_292) q_1210 (w := 6) (by decide) d7_dependsOn_76 (fun hm5 => ?_)
    refine g_getRN hK zfin_6 (fa_6_14 hm5) qn_1165 (pt_6_depends hm5) d7_dependsOn_79 ?_
    refine g_iload_n hK 2 rfl rfl d7_dependsOn_82 ?_
    refine g_iload hK 6 rfl d7_dependsOn_83 ?_
    refine g_iadd hK d7_dependsOn_85 (fun v9 hv9 => ?_)
    refine g_dup2 hK d7_dependsOn_86 rfl rfl ?_
    refine g_iald hK (pt_6_depends_k hm5) d7_dependsOn_87 (fun _ hl4 => ?_)
    refine g_iload hK 6 rfl d7_dependsOn_88 ?_
    refine g_iload hK 4 rfl d7_dependsOn_90 ?_
    refine g_icmp_eq hK hx6 hx4 (tgt := 115) (by decide) d7_dependsOn_92 (fun _ => ?_) (fun _ => ?_)
    · refine g_iload hK 5 rfl d7_dependsOn_115 ?_
      refine g_goto hK (tgt := 121) (by decide) d7_dependsOn_117 ?_
      exact p7_dependsOn_121 hcx a1 ha1 k13 hk13 k68 hk68 x2 x3 x4 x5 x6 x5 (zI μ ((zR μ 292 13) + 13) (zx v9)) v9 ((zR μ 292 13) + 13) μ hx2 hx3 hx4 hx5 hx6 hx5 hl4 hv9 (pt_6_depends_k hm5)
    · refine g_aload_n hK 0 rfl rfl d7_dependsOn_95 ?_
      refine g_getM hK zfin_7 (fa_7_13 kc_292) q_1210 (w := 6) (by decide) d7_dependsOn_96 (fun hm6 => ?_)
      refine g_getRN hK zfin_6 (fa_6_14 hm6) qn_1165 (pt_6_depends hm6) d7_dependsOn_99 ?_
      refine g_iload_n hK 2 rfl rfl d7_dependsOn_102 ?_
      refine g_iload hK 6 rfl d7_dependsOn_103 ?_
      refine g_iadd hK d7_dependsOn_105 (fun v10 hv10 => ?_)
      refine g_iald hK (pt_6_depends_k hm6) d7_dependsOn_106 (fun _ hl5 => ?_)
      refine g_iload hK 4 rfl d7_dependsOn_107 ?_
      refine g_callSco hK (mk := mkZ) (rm := rm7_has) (cb := 0) (sb := 0) (As := [.int (zi (zI μ ((zR μ 292 13) + 13) (zx v10))), .int (zi x4)]) (n := 2) (c7_has K.2.1 hK.2.2.2.2.2.2.2.2.1 Z (zI μ ((zR μ 292 13) + 13) (zx v10)) x4 μ hl5 hx4) q_1390 q_1391 q_7 q_1392 rfl (by decide +kernel) (by decide) (Nat.le_of_ble_eq_true rfl) (Nat.le_of_ble_eq_true rfl) (Nat.le_of_ble_eq_true rfl) rfl d7_dependsOn_109 (fun r1 hr1 hpr1 => ?_)
      refine g_if_eq hK (zb_r r1) (tgt := 120) (by decide) d7_dependsOn_112 (fun _ => ?_) (fun _ => ?_)
      · refine g_iconst hK d7_dependsOn_120 zki0 ?_
        exact p7_dependsOn_121 hcx a1 ha1 k13 hk13 k68 hk68 x2 x3 x4 x5 x6 0 (zI μ ((zR μ 292 13) + 13) (zx v9)) v9 ((zR μ 292 13) + 13) μ hx2 hx3 hx4 hx5 hx6 zc0 hl4 hv9 (pt_6_depends_k hm5)
      · refine g_iload hK 5 rfl d7_dependsOn_115 ?_
        refine g_goto hK (tgt := 121) (by decide) d7_dependsOn_117 ?_
        exact p7_dependsOn_121 hcx a1 ha1 k13 hk13 k68 hk68 x2 x3 x4 x5 x6 x5 (zI μ ((zR μ 292 13) + 13) (zx v9)) v9 ((zR μ 292 13) + 13) μ hx2 hx3 hx4 hx5 hx6 hx5 hl4 hv9 (pt_6_depends_k hm5)
set_option maxRecDepth 20000 in
theorem l7_dependsOn_68 {K : zK} {Z : zZ} (hcx : zOk K Z b7_dependsOn RX7 7 (none) 1 29 0 0 ∧ ∀ x ∈ K.2.2.2.2.2.2.2.2.2.exceptionTable.toList, False) (a1 : Int) (ha1 : zr a1) (k13 : Int → Int → zM → Option zM) (hk13 : ∀ (x2 : Int) (x3 : Int) (μ : zM) (hx2 : zr x2) (hx3 : zr x3), zG K Z (zΩ Z) (zF K Z (zΩ Z) zeM) 0 0 13 [(0, .ref (Z.2.2.1 + 292)), (1, .int (zi a1)), (2, .int (zi x2)), (3, .int (zi x3))] [] μ (k13 x2 x3 μ)) : ∀ (i9 : Nat) (x2 : Int) (x3 : Int) (x4 : Int) (x5 : Int) (x6 : Int) (μ : zM) (hx2 : zr x2) (hx3 : zr x3) (hx4 : zr x4) (hx5 : zr x5) (hx6 : zr x6), zG K Z (zΩ Z) (zF K Z (zΩ Z) zeM) 0 0 68 [(0, .ref (Z.2.2.1 + 292)), (1, .int (zi a1)), (2, .int (zi x2)), (3, .int (zi x3)), (4, .int (zi x4)), (5, .int (zi x5)), (6, .int (zi x6))] [] μ (zfx (f7_dependsOn_68 a1 k13) (fun _ _ _ _ _ _ => none) i9 x2 x3 x4 x5 x6 μ) := by
  intro i9
  induction i9 with
  | zero => intro x2 x3 x4 x5 x6 μ hx2 hx3 hx4 hx5 hx6; exact g_none
  | succ i9 ih => intro x2 x3 x4 x5 x6 μ hx2 hx3 hx4 hx5 hx6; exact p7_dependsOn_68 hcx a1 ha1 k13 hk13 (zfx (f7_dependsOn_68 a1 k13) (fun _ _ _ _ _ _ => none) i9) ih x2 x3 x4 x5 x6 μ hx2 hx3 hx4 hx5 hx6
set_option maxRecDepth 20000 in
theorem p7_dependsOn_13 {K : zK} {Z : zZ} (hcx : zOk K Z b7_dependsOn RX7 7 (none) 1 29 0 0 ∧ ∀ x ∈ K.2.2.2.2.2.2.2.2.2.exceptionTable.toList, False) (a1 : Int) (ha1 : zr a1) (k13 : Int → Int → zM → Option zM) (hk13 : ∀ (x2 : Int) (x3 : Int) (μ : zM) (hx2 : zr x2) (hx3 : zr x3), zG K Z (zΩ Z) (zF K Z (zΩ Z) zeM) 0 0 13 [(0, .ref (Z.2.2.1 + 292)), (1, .int (zi a1)), (2, .int (zi x2)), (3, .int (zi x3))] [] μ (k13 x2 x3 μ)) (x2 : Int) (x3 : Int) (μ : zM) (hx2 : zr x2) (hx3 : zr x3) : zG K Z (zΩ Z) (zF K Z (zΩ Z) zeM) 0 0 13 [(0, .ref (Z.2.2.1 + 292)), (1, .int (zi a1)), (2, .int (zi x2)), (3, .int (zi x3))] [] μ (f7_dependsOn_13 a1 k13 x2 x3 μ) := by
  obtain ⟨hK, hex⟩ := id hcx
  unfold f7_dependsOn_13
  refine g_iload_n hK 3 rfl rfl d7_dependsOn_13 ?_
  refine g_aload_n hK 0 rfl rfl d7_dependsOn_14 ?_
  refine g_getI hK zfin_7 (fa_7_19 kc_292) q_1216 d7_dependsOn_15 (fun hf2 => ?_)
  refine g_icmp_ge hK hx3 hf2 (tgt := 135) (by decide) d7_dependsOn_18 (fun _ => ?_) (fun _ => ?_)
  · exact g_vret hK rfl rfl d7_dependsOn_135
  · refine g_aload_n hK 0 rfl rfl d7_dependsOn_21 ?_
    refine g_getM hK zfin_7 (fa_7_13 kc_292) q_1210 (w := 6) (by decide) d7_dependsOn_22 (fun hm2 => ?_)
    refine g_getRN hK zfin_6 (fa_6_7 hm2) qn_1151 (pt_6_field hm2) d7_dependsOn_25 ?_
    refine g_bipush hK d7_dependsOn_28 zkb60 ?_
    refine g_aload_n hK 0 rfl rfl d7_dependsOn_30 ?_
    refine g_getM hK zfin_7 (fa_7_13 kc_292) q_1210 (w := 6) (by decide) d7_dependsOn_31 (fun hm3 => ?_)
    refine g_getIN hK zfin_6 (fa_6_0 hm3) qn_1138 d7_dependsOn_34 (fun hf3 => ?_)
    refine g_imul hK d7_dependsOn_37 (fun v2 hv2 => ?_)
    refine g_aload_n hK 0 rfl rfl d7_dependsOn_38 ?_
    refine g_getR hK zfin_7 (fa_7_18 kc_292) q_1215 (r := 328) (by decide +kernel) d7_dependsOn_39 ?_
    refine g_iload_n hK 3 rfl rfl d7_dependsOn_42 ?_
    refine g_iald hK kc_328 d7_dependsOn_43 (fun _ hl1 => ?_)
    refine g_iadd hK d7_dependsOn_44 (fun v3 hv3 => ?_)
    refine g_iald hK (pt_6_field_k hm2) d7_dependsOn_45 (fun _ hl2 => ?_)
    refine g_ltI hl2 (fun v4 hv4 => ?_)
    refine g_istore hK (lv2 := [(0, .ref (Z.2.2.1 + 292)), (1, .int (zi a1)), (2, .int (zi x2)), (3, .int (zi x3)), (4, .int (zi v4))]) [1, 2, 3, 4, 0] rfl (by decide) d7_dependsOn_46 ?_
    refine g_iconst hK d7_dependsOn_48 zki1 ?_
    refine g_iload_n hK 1 rfl rfl d7_dependsOn_49 ?_
    refine g_ishl hK d7_dependsOn_50 (fun v5 hv5 => ?_)
    refine g_aload_n hK 0 rfl rfl d7_dependsOn_51 ?_
    refine g_getM hK zfin_7 (fa_7_13 kc_292) q_1210 (w := 6) (by decide) d7_dependsOn_52 (fun hm4 => ?_)
    refine g_getRN hK zfin_6 (fa_6_14 hm4) qn_1165 (pt_6_depends hm4) d7_dependsOn_55 ?_
    refine g_iload_n hK 2 rfl rfl d7_dependsOn_58 ?_
    refine g_iload_n hK 1 rfl rfl d7_dependsOn_59 ?_
    refine g_iadd hK d7_dependsOn_60 (fun v6 hv6 => ?_)
    refine g_iald hK (pt_6_depends_k hm4) d7_dependsOn_61 (fun _ hl3 => ?_)
    refine g_ior hK d7_dependsOn_62 (fun v7 hv7 => ?_)
    refine g_istore hK (lv2 := [(0, .ref (Z.2.2.1 + 292)), (1, .int (zi a1)), (2, .int (zi x2)), (3, .int (zi x3)), (4, .int (zi v4)), (5, .int (zi v7))]) [1, 2, 3, 4, 5, 0] rfl (by decide) d7_dependsOn_63 ?_
    refine g_iconst hK d7_dependsOn_65 zki0 ?_
    refine g_istore hK (lv2 := [(0, .ref (Z.2.2.1 + 292)), (1, .int (zi a1)), (2, .int (zi x2)), (3, .int (zi x3)), (4, .int (zi v4)), (5, .int (zi v7)), (6, .int (zi 0))]) [1, 2, 3, 4, 5, 6, 0] rfl (by decide) d7_dependsOn_66 ?_
    exact l7_dependsOn_68 hcx a1 ha1 k13 hk13 zFu x2 x3 v4 v7 0 μ hx2 hx3 hv4 hv7 zc0
set_option maxRecDepth 20000 in
theorem l7_dependsOn_13 {K : zK} {Z : zZ} (hcx : zOk K Z b7_dependsOn RX7 7 (none) 1 29 0 0 ∧ ∀ x ∈ K.2.2.2.2.2.2.2.2.2.exceptionTable.toList, False) (a1 : Int) (ha1 : zr a1) : ∀ (i9 : Nat) (x2 : Int) (x3 : Int) (μ : zM) (hx2 : zr x2) (hx3 : zr x3), zG K Z (zΩ Z) (zF K Z (zΩ Z) zeM) 0 0 13 [(0, .ref (Z.2.2.1 + 292)), (1, .int (zi a1)), (2, .int (zi x2)), (3, .int (zi x3))] [] μ (zfx (f7_dependsOn_13 a1) (fun _ _ _ => none) i9 x2 x3 μ) := by
  intro i9
  induction i9 with
  | zero => intro x2 x3 μ hx2 hx3; exact g_none
  | succ i9 ih => intro x2 x3 μ hx2 hx3; exact p7_dependsOn_13 hcx a1 ha1  (zfx (f7_dependsOn_13 a1) (fun _ _ _ => none) i9) ih x2 x3 μ hx2 hx3
set_option maxRecDepth 20000 in
theorem c7_dependsOn (l : Launch) (hst : l.stackTraces = false) (Z : zZ) (a1 : Int) (μ : zM) (ha1 : zr a1) : ∀ x, f7_dependsOn a1 μ = some x → zCt l Z (zΩ Z) y7_dependsOn (zws (.code y7_dependsOn b7_dependsOn 7 (none))) rm7_dependsOn [.ref (Z.2.2.1 + 292), .int (zi a1)] μ (zeM x) := by
  intro x h
  refine zCt.of (enc := zeM) h (by decide) hst (Nat.le_of_ble_eq_true rfl) (fun K hK0 hex hl _ => ?_)
  subst hl
  have hcx : zOk K Z b7_dependsOn RX7 7 (none) 1 29 0 0 ∧ ∀ x ∈ K.2.2.2.2.2.2.2.2.2.exceptionTable.toList, False := ⟨hK0, hex⟩
  have hK := hcx.1
  show zG K Z (zΩ Z) (zF K Z (zΩ Z) zeM) 0 0 0 [(0, .ref (Z.2.2.1 + 292)), (1, .int (zi a1))] [] μ (f7_dependsOn a1 μ)
  unfold f7_dependsOn
  refine g_bipush hK d7_dependsOn_0 zkb10 ?_
  refine g_aload_n hK 0 rfl rfl d7_dependsOn_2 ?_
  refine g_getM hK zfin_7 (fa_7_13 kc_292) q_1210 (w := 6) (by decide) d7_dependsOn_3 (fun hm1 => ?_)
  refine g_getIN hK zfin_6 (fa_6_0 hm1) qn_1138 d7_dependsOn_6 (fun hf1 => ?_)
  refine g_imul hK d7_dependsOn_9 (fun v1 hv1 => ?_)
  refine g_istore_n hK (lv2 := [(0, .ref (Z.2.2.1 + 292)), (1, .int (zi a1)), (2, .int (zi v1))]) [1, 2, 0] rfl rfl (by decide) d7_dependsOn_10 ?_
  refine g_iconst hK d7_dependsOn_11 zki0 ?_
  refine g_istore_n hK (lv2 := [(0, .ref (Z.2.2.1 + 292)), (1, .int (zi a1)), (2, .int (zi v1)), (3, .int (zi 0))]) [1, 2, 3, 0] rfl rfl (by decide) d7_dependsOn_12 ?_
  exact l7_dependsOn_13 hcx a1 ha1  zFu v1 0 μ hv1 zc0
set_option maxRecDepth 20000 in
theorem c7_changeOf (l : Launch) (hst : l.stackTraces = false) (Z : zZ) (a1 : Int) (μ : zM) (ha1 : zr a1) : ∀ x, f7_changeOf a1 = some x → zCt l Z (zΩ Z) y7_changeOf (zws (.code y7_changeOf b7_changeOf 1 (some .int))) rm7_changeOf [.int (zi a1)] μ (zeP mkI μ x) := by
  intro x h
  refine zCt.of (enc := (zeP mkI μ)) h (by decide) hst (Nat.le_of_ble_eq_true rfl) (fun K hK0 hex hl _ => ?_)
  subst hl
  have hcx : zOk K Z b7_changeOf RX7 1 (some .int) 0 8 0 0 ∧ ∀ x ∈ K.2.2.2.2.2.2.2.2.2.exceptionTable.toList, False := ⟨hK0, hex⟩
  have hK := hcx.1
  show zG K Z (zΩ Z) (zF K Z (zΩ Z) (zeP mkI μ)) 0 0 0 [(0, .int (zi a1))] [] μ (f7_changeOf a1)
  unfold f7_changeOf
  refine g_iload_n hK 0 rfl rfl d7_changeOf_0 ?_
  refine g_bipush hK d7_changeOf_1 zkb117 ?_
  refine g_icmp_ne hK ha1 zc117 (tgt := 10) (by decide) d7_changeOf_3 (fun _ => ?_) (fun _ => ?_)
  · refine g_iload_n hK 0 rfl rfl d7_changeOf_10 ?_
    refine g_bipush hK d7_changeOf_11 zkb108 ?_
    refine g_icmp_ne hK ha1 zc108 (tgt := 20) (by decide) d7_changeOf_13 (fun _ => ?_) (fun _ => ?_)
    · refine g_iload_n hK 0 rfl rfl d7_changeOf_20 ?_
      refine g_bipush hK d7_changeOf_21 zkb114 ?_
      refine g_icmp_ne hK ha1 zc114 (tgt := 30) (by decide) d7_changeOf_23 (fun _ => ?_) (fun _ => ?_)
      · refine g_iload_n hK 0 rfl rfl d7_changeOf_30 ?_
        refine g_bipush hK d7_changeOf_31 zkb102 ?_
        refine g_icmp_ne hK ha1 zc102 (tgt := 40) (by decide) d7_changeOf_33 (fun _ => ?_) (fun _ => ?_)
        · refine g_iload_n hK 0 rfl rfl d7_changeOf_40 ?_
          refine g_bipush hK d7_changeOf_41 zkb110 ?_
          refine g_icmp_ne hK ha1 zc110 (tgt := 50) (by decide) d7_changeOf_43 (fun _ => ?_) (fun _ => ?_)
          · refine g_iconst hK d7_changeOf_50 zki0 ?_
            exact g_iret hK zc0 rfl rfl d7_changeOf_51
          · refine g_iconst hK d7_changeOf_46 zki5 ?_
            refine g_goto hK (tgt := 51) (by decide) d7_changeOf_47 ?_
            exact g_iret hK zc5 rfl rfl d7_changeOf_51
        · refine g_iconst hK d7_changeOf_36 zki4 ?_
          refine g_goto hK (tgt := 51) (by decide) d7_changeOf_37 ?_
          exact g_iret hK zc4 rfl rfl d7_changeOf_51
      · refine g_iconst hK d7_changeOf_26 zki3 ?_
        refine g_goto hK (tgt := 51) (by decide) d7_changeOf_27 ?_
        exact g_iret hK zc3 rfl rfl d7_changeOf_51
    · refine g_iconst hK d7_changeOf_16 zki2 ?_
      refine g_goto hK (tgt := 51) (by decide) d7_changeOf_17 ?_
      exact g_iret hK zc2 rfl rfl d7_changeOf_51
  · refine g_iconst hK d7_changeOf_6 zki1 ?_
    refine g_goto hK (tgt := 51) (by decide) d7_changeOf_7 ?_
    exact g_iret hK zc1 rfl rfl d7_changeOf_51
set_option maxRecDepth 20000 in
theorem p7_readRest_153 {K : zK} {Z : zZ} (hcx : zOk K Z b7_readRest RX7 5 (some .boolean) 1 30 0 0 ∧ ∀ x ∈ K.2.2.2.2.2.2.2.2.2.exceptionTable.toList, False) (a1 : Int) (a2 : Int) (a3 : Int) (ha1 : zr a1) (ha2 : zr a2) (ha3 : zr a3) (x4 : Int) (μ : zM) (hx4 : zr x4) : zG K Z (zΩ Z) (zF K Z (zΩ Z) (ze2 mkZ)) 0 0 153 [(0, .ref (Z.2.2.1 + 292)), (4, .int (zi x4))] [] μ (f7_readRest_153 a1 a2 a3 x4 μ) := by
  obtain ⟨hK, hex⟩ := id hcx
  unfold f7_readRest_153
  refine g_iload hK 1 rfl d7_readRest_153 ?_
  refine g_bipush hK d7_readRest_155 zkb125 ?_
  refine g_icmp_eq hK hx4 zc125 (tgt := 170) (by decide) d7_readRest_157 (fun _ => ?_) (fun _ => ?_)
  · refine g_aload_n hK 0 rfl rfl d7_readRest_170 ?_
    refine g_dup hK d7_readRest_171 rfl ?_
    refine g_getI hK zfin_7 (fa_7_14 kc_292) q_1211 d7_readRest_172 (fun hf11 => ?_)
    refine g_iconst hK d7_readRest_175 zki1 ?_
    refine g_iadd hK d7_readRest_176 (fun v5 hv5 => ?_)
    refine g_putI hK zfin_7 (fa_7_14 kc_292) q_1211 hv5 rfl (tyX7_ok 14 (by decide)) tyX7 tyX7_ok nmX7 d7_readRest_177 ?_
    refine g_ltM (fun m10 => ?_)
    refine g_iconst hK d7_readRest_180 zki1 ?_
    exact g_zret hK (by decide) rfl rfl d7_readRest_181
  · refine g_aload_n hK 0 rfl rfl d7_readRest_160 ?_
    refine g_iconst hK d7_readRest_161 zki1 ?_
    refine g_aload_n hK 0 rfl rfl d7_readRest_162 ?_
    refine g_getI hK zfin_7 (fa_7_14 kc_292) q_1211 d7_readRest_163 (fun hf12 => ?_)
    refine g_callVcl hK (mk := mkZ) (rm := rm7_fails) (cb := 0) (sb := 0) (As := [.int (zi 1), .int (zi (zI μ 292 14))]) (b := 292) (n := 2) (c7_fails K.2.1 hK.2.2.2.2.2.2.2.2.1 Z 1 (zI μ 292 14) μ zc1 hf12) rfl (ci := 7) rfl (by decide) kc_292 q_1358 q_1360 qs_7_fails q_7 q_1361 rfl (by decide +kernel) (by decide) (Nat.le_of_ble_eq_true rfl) (Nat.le_of_ble_eq_true rfl) (Nat.le_of_ble_eq_true rfl) rfl d7_readRest_166 (fun r7 m11 hr7 hpr7 => ?_)
    exact g_zret hK (zb01 _) rfl rfl d7_readRest_169
set_option maxRecDepth 20000 in
theorem c7_readRest (l : Launch) (hst : l.stackTraces = false) (Z : zZ) (a1 : Int) (a2 : Int) (a3 : Int) (μ : zM) (ha1 : zr a1) (ha2 : zr a2) (ha3 : zr a3) : ∀ x, f7_readRest a1 a2 a3 μ = some x → zCt l Z (zΩ Z) y7_readRest (zws (.code y7_readRest b7_readRest 5 (some .boolean))) rm7_readRest [.ref (Z.2.2.1 + 292), .int (zi a1), .int (zi a2), .int (zi a3)] μ (ze2 mkZ x) := by
  intro x h
  refine zCt.of (enc := (ze2 mkZ)) h (by decide) hst (Nat.le_of_ble_eq_true rfl) (fun K hK0 hex hl _ => ?_)
  subst hl
  have hcx : zOk K Z b7_readRest RX7 5 (some .boolean) 1 30 0 0 ∧ ∀ x ∈ K.2.2.2.2.2.2.2.2.2.exceptionTable.toList, False := ⟨hK0, hex⟩
  have hK := hcx.1
  show zG K Z (zΩ Z) (zF K Z (zΩ Z) (ze2 mkZ)) 0 0 0 [(0, .ref (Z.2.2.1 + 292)), (1, .int (zi a1)), (2, .int (zi a2)), (3, .int (zi a3))] [] μ (f7_readRest a1 a2 a3 μ)
  unfold f7_readRest
  refine g_aload_n hK 0 rfl rfl d7_readRest_0 ?_
  refine g_aload_n hK 0 rfl rfl d7_readRest_1 ?_
  refine g_getI hK zfin_7 (fa_7_14 kc_292) q_1211 d7_readRest_2 (fun hf1 => ?_)
  refine g_callVco hK (mk := mkI) (rm := rm7_byteAt) (cb := 0) (sb := 0) (As := [.int (zi (zI μ 292 14))]) (b := 292) (n := 1) (c7_byteAt K.2.1 hK.2.2.2.2.2.2.2.2.1 Z (zI μ 292 14) μ hf1) rfl (ci := 7) rfl (by decide) kc_292 q_1337 q_1339 qs_7_byteAt q_7 q_1340 rfl (by decide +kernel) (by decide) (Nat.le_of_ble_eq_true rfl) (Nat.le_of_ble_eq_true rfl) (Nat.le_of_ble_eq_true rfl) rfl d7_readRest_5 (fun r1 hr1 hpr1 => ?_)
  refine g_istore hK (lv2 := [(0, .ref (Z.2.2.1 + 292)), (1, .int (zi a1)), (2, .int (zi a2)), (3, .int (zi a3)), (4, .int (zi r1))]) [1, 2, 3, 4, 0] rfl (by decide) d7_readRest_8 ?_
  refine g_iload hK 4 rfl d7_readRest_10 ?_
  refine g_bipush hK d7_readRest_12 zkb58 ?_
  refine g_icmp_ne hK hpr1 zc58 (tgt := 74) (by decide) d7_readRest_14 (fun _ => ?_) (fun _ => ?_)
  · refine g_iload hK 4 rfl d7_readRest_74 ?_
    refine g_bipush hK d7_readRest_76 zkb47 ?_
    refine g_icmp_ne hK hpr1 zc47 (tgt := 153) (by decide) d7_readRest_78 (fun _ => ?_) (fun _ => ?_)
    · refine g_lv (lv2 := [(0, .ref (Z.2.2.1 + 292)), (4, .int (zi r1))]) [0, 4] rfl ?_
      exact p7_readRest_153 hcx a1 a2 a3 ha1 ha2 ha3  r1 μ hpr1
    · refine g_aload_n hK 0 rfl rfl d7_readRest_81 ?_
      refine g_dup hK d7_readRest_82 rfl ?_
      refine g_getI hK zfin_7 (fa_7_14 kc_292) q_1211 d7_readRest_83 (fun hf2 => ?_)
      refine g_iconst hK d7_readRest_86 zki1 ?_
      refine g_iadd hK d7_readRest_87 (fun v1 hv1 => ?_)
      refine g_putI hK zfin_7 (fa_7_14 kc_292) q_1211 hv1 rfl (tyX7_ok 14 (by decide)) tyX7 tyX7_ok nmX7 d7_readRest_88 ?_
      refine g_ltM (fun m1 => ?_)
      refine g_aload_n hK 0 rfl rfl d7_readRest_91 ?_
      refine g_getM hK zfin_7 (fa_7_13 kc_292) q_1210 (w := 6) (by decide) d7_readRest_92 (fun hm1 => ?_)
      refine g_getRN hK zfin_6 (fa_6_8 hm1) qn_1153 (pt_6_change hm1) d7_readRest_95 ?_
      refine g_iload_n hK 2 rfl rfl d7_readRest_98 ?_
      refine g_aload_n hK 0 rfl rfl d7_readRest_99 ?_
      refine g_aload_n hK 0 rfl rfl d7_readRest_100 ?_
      refine g_getI hK zfin_7 (fa_7_14 kc_292) q_1211 d7_readRest_101 (fun hf3 => ?_)
      refine g_callVco hK (mk := mkI) (rm := rm7_byteAt) (cb := 0) (sb := 0) (As := [.int (zi (zI m1 292 14))]) (b := 292) (n := 1) (c7_byteAt K.2.1 hK.2.2.2.2.2.2.2.2.1 Z (zI m1 292 14) m1 hf3) rfl (ci := 7) rfl (by decide) kc_292 q_1337 q_1339 qs_7_byteAt q_7 q_1340 rfl (by decide +kernel) (by decide) (Nat.le_of_ble_eq_true rfl) (Nat.le_of_ble_eq_true rfl) (Nat.le_of_ble_eq_true rfl) rfl d7_readRest_104 (fun r2 hr2 hpr2 => ?_)
      refine g_callSco hK (mk := mkI) (rm := rm7_changeOf) (cb := 0) (sb := 0) (As := [.int (zi r2)]) (n := 1) (c7_changeOf K.2.1 hK.2.2.2.2.2.2.2.2.1 Z r2 m1 hpr2) q_1401 q_1402 q_7 q_1403 rfl (by decide +kernel) (by decide) (Nat.le_of_ble_eq_true rfl) (Nat.le_of_ble_eq_true rfl) (Nat.le_of_ble_eq_true rfl) rfl d7_readRest_107 (fun r3 hr3 hpr3 => ?_)
      refine g_iast hK hpr3 (pt_6_change_k hm1) d7_readRest_110 (fun _ => ?_)
      refine g_ltM (fun m2 => ?_)
      refine g_aload_n hK 0 rfl rfl d7_readRest_111 ?_
      refine g_getM hK zfin_7 (fa_7_13 kc_292) q_1210 (w := 6) (by decide) d7_readRest_112 (fun hm2 => ?_)
      refine g_getRN hK zfin_6 (fa_6_8 hm2) qn_1153 (pt_6_change hm2) d7_readRest_115 ?_
      refine g_iload_n hK 2 rfl rfl d7_readRest_118 ?_
      refine g_iald hK (pt_6_change_k hm2) d7_readRest_119 (fun _ hl1 => ?_)
      refine g_if_ne hK hl1 (tgt := 133) (by decide) d7_readRest_120 (fun _ => ?_) (fun _ => ?_)
      · refine g_aload_n hK 0 rfl rfl d7_readRest_133 ?_
        refine g_dup hK d7_readRest_134 rfl ?_
        refine g_getI hK zfin_7 (fa_7_14 kc_292) q_1211 d7_readRest_135 (fun hf4 => ?_)
        refine g_iconst hK d7_readRest_138 zki1 ?_
        refine g_iadd hK d7_readRest_139 (fun v2 hv2 => ?_)
        refine g_putI hK zfin_7 (fa_7_14 kc_292) q_1211 hv2 rfl (tyX7_ok 14 (by decide)) tyX7 tyX7_ok nmX7 d7_readRest_140 ?_
        refine g_ltM (fun m3 => ?_)
        refine g_aload_n hK 0 rfl rfl d7_readRest_143 ?_
        refine g_aload_n hK 0 rfl rfl d7_readRest_144 ?_
        refine g_getI hK zfin_7 (fa_7_14 kc_292) q_1211 d7_readRest_145 (fun hf5 => ?_)
        refine g_callVco hK (mk := mkI) (rm := rm7_byteAt) (cb := 0) (sb := 0) (As := [.int (zi (zI m3 292 14))]) (b := 292) (n := 1) (c7_byteAt K.2.1 hK.2.2.2.2.2.2.2.2.1 Z (zI m3 292 14) m3 hf5) rfl (ci := 7) rfl (by decide) kc_292 q_1337 q_1339 qs_7_byteAt q_7 q_1340 rfl (by decide +kernel) (by decide) (Nat.le_of_ble_eq_true rfl) (Nat.le_of_ble_eq_true rfl) (Nat.le_of_ble_eq_true rfl) rfl d7_readRest_148 (fun r4 hr4 hpr4 => ?_)
        refine g_istore hK (lv2 := [(0, .ref (Z.2.2.1 + 292)), (1, .int (zi a1)), (2, .int (zi a2)), (3, .int (zi a3)), (4, .int (zi r4))]) [1, 2, 3, 4, 0] rfl (by decide) d7_readRest_151 ?_
        refine g_lv (lv2 := [(0, .ref (Z.2.2.1 + 292)), (4, .int (zi r4))]) [0, 4] rfl ?_
        exact p7_readRest_153 hcx a1 a2 a3 ha1 ha2 ha3  r4 m3 hpr4
      · refine g_aload_n hK 0 rfl rfl d7_readRest_123 ?_
        refine g_iconst hK d7_readRest_124 zki1 ?_
        refine g_aload_n hK 0 rfl rfl d7_readRest_125 ?_
        refine g_getI hK zfin_7 (fa_7_14 kc_292) q_1211 d7_readRest_126 (fun hf6 => ?_)
        refine g_callVcl hK (mk := mkZ) (rm := rm7_fails) (cb := 0) (sb := 0) (As := [.int (zi 1), .int (zi (zI m2 292 14))]) (b := 292) (n := 2) (c7_fails K.2.1 hK.2.2.2.2.2.2.2.2.1 Z 1 (zI m2 292 14) m2 zc1 hf6) rfl (ci := 7) rfl (by decide) kc_292 q_1358 q_1360 qs_7_fails q_7 q_1361 rfl (by decide +kernel) (by decide) (Nat.le_of_ble_eq_true rfl) (Nat.le_of_ble_eq_true rfl) (Nat.le_of_ble_eq_true rfl) rfl d7_readRest_129 (fun r5 m4 hr5 hpr5 => ?_)
        exact g_zret hK (zb01 _) rfl rfl d7_readRest_132
  · refine g_aload_n hK 0 rfl rfl d7_readRest_17 ?_
    refine g_getI hK zfin_7 (fa_7_19 kc_292) q_1216 d7_readRest_18 (fun hf7 => ?_)
    refine g_iconst hK d7_readRest_21 zki4 ?_
    refine g_icmp_ne hK hf7 zc4 (tgt := 32) (by decide) d7_readRest_22 (fun _ => ?_) (fun _ => ?_)
    · refine g_aload_n hK 0 rfl rfl d7_readRest_32 ?_
      refine g_getM hK zfin_7 (fa_7_13 kc_292) q_1210 (w := 6) (by decide) d7_readRest_33 (fun hm3 => ?_)
      refine g_getRN hK zfin_6 (fa_6_9 hm3) qn_1155 (pt_6_hasDefault hm3) d7_readRest_36 ?_
      refine g_iload_n hK 2 rfl rfl d7_readRest_39 ?_
      refine g_iconst hK d7_readRest_40 zki1 ?_
      refine g_zast hK (pt_6_hasDefault_k hm3) d7_readRest_41 (fun _ => ?_)
      refine g_ltM (fun m5 => ?_)
      refine g_aload_n hK 0 rfl rfl d7_readRest_42 ?_
      refine g_getR hK zfin_7 (fa_7_18 kc_292) q_1215 (r := 328) (by decide +kernel) d7_readRest_43 ?_
      refine g_aload_n hK 0 rfl rfl d7_readRest_46 ?_
      refine g_getI hK zfin_7 (fa_7_19 kc_292) q_1216 d7_readRest_47 (fun hf8 => ?_)
      refine g_iload_n hK 3 rfl rfl d7_readRest_50 ?_
      refine g_iast hK ha3 kc_328 d7_readRest_51 (fun _ => ?_)
      refine g_ltM (fun m6 => ?_)
      refine g_aload_n hK 0 rfl rfl d7_readRest_52 ?_
      refine g_dup hK d7_readRest_53 rfl ?_
      refine g_getI hK zfin_7 (fa_7_19 kc_292) q_1216 d7_readRest_54 (fun hf9 => ?_)
      refine g_iconst hK d7_readRest_57 zki1 ?_
      refine g_iadd hK d7_readRest_58 (fun v3 hv3 => ?_)
      refine g_putI hK zfin_7 (fa_7_19 kc_292) q_1216 hv3 rfl (tyX7_ok 19 (by decide)) tyX7 tyX7_ok nmX7 d7_readRest_59 ?_
      refine g_ltM (fun m7 => ?_)
      refine g_aload_n hK 0 rfl rfl d7_readRest_62 ?_
      refine g_dup hK d7_readRest_63 rfl ?_
      refine g_getI hK zfin_7 (fa_7_14 kc_292) q_1211 d7_readRest_64 (fun hf10 => ?_)
      refine g_iconst hK d7_readRest_67 zki1 ?_
      refine g_iadd hK d7_readRest_68 (fun v4 hv4 => ?_)
      refine g_putI hK zfin_7 (fa_7_14 kc_292) q_1211 hv4 rfl (tyX7_ok 14 (by decide)) tyX7 tyX7_ok nmX7 d7_readRest_69 ?_
      refine g_ltM (fun m8 => ?_)
      refine g_iconst hK d7_readRest_72 zki1 ?_
      exact g_zret hK (by decide) rfl rfl d7_readRest_73
    · refine g_aload_n hK 0 rfl rfl d7_readRest_25 ?_
      refine g_iconst hK d7_readRest_26 zki2 ?_
      refine g_iload_n hK 1 rfl rfl d7_readRest_27 ?_
      refine g_callVcl hK (mk := mkZ) (rm := rm7_fails) (cb := 0) (sb := 0) (As := [.int (zi 2), .int (zi a1)]) (b := 292) (n := 2) (c7_fails K.2.1 hK.2.2.2.2.2.2.2.2.1 Z 2 a1 μ zc2 ha1) rfl (ci := 7) rfl (by decide) kc_292 q_1358 q_1360 qs_7_fails q_7 q_1361 rfl (by decide +kernel) (by decide) (Nat.le_of_ble_eq_true rfl) (Nat.le_of_ble_eq_true rfl) (Nat.le_of_ble_eq_true rfl) rfl d7_readRest_28 (fun r6 m9 hr6 hpr6 => ?_)
      exact g_zret hK (zb01 _) rfl rfl d7_readRest_31
set_option maxRecDepth 20000 in
theorem p7_readOccurrence_229 {K : zK} {Z : zZ} (hcx : zOk K Z b7_readOccurrence RX7 7 (some .boolean) 2 55 0 0 ∧ ∀ x ∈ K.2.2.2.2.2.2.2.2.2.exceptionTable.toList, False) (a1 : Int) (ha1 : zr a1) (x2 : Int) (x4 : Int) (x5 : Int) (x6 : Int) (s0 : Int) (s1 : Int) (s2 : Nat) (μ : zM) (hx2 : zr x2) (hx4 : zr x4) (hx5 : zr x5) (hx6 : zr x6) (hs0 : zr s0) (hs1 : zr s1) (hs2 : zkd s2 = 100) : zG K Z (zΩ Z) (zF K Z (zΩ Z) (ze2 mkZ)) 0 0 229 [(0, .ref (Z.2.2.1 + 292)), (1, .int (zi a1)), (2, .int (zi x2)), (4, .int (zi x4)), (5, .int (zi x5)), (6, .int (zi x6))] [.int (zi s0), .int (zi s1), .ref (Z.2.2.1 + s2)] μ (f7_readOccurrence_229 a1 x2 x4 x5 x6 s0 s1 s2 μ) := by
  obtain ⟨hK, hex⟩ := id hcx
  unfold f7_readOccurrence_229
  refine g_iast hK hs0 hs2 d7_readOccurrence_229 (fun _ => ?_)
  refine g_ltM (fun m10 => ?_)
  refine g_aload_n hK 0 rfl rfl d7_readOccurrence_230 ?_
  refine g_getM hK zfin_7 (fa_7_13 kc_292) q_1210 (w := 6) (by decide) d7_readOccurrence_231 (fun hm10 => ?_)
  refine g_getRN hK zfin_6 (fa_6_11 hm10) qn_1159 (pt_6_at hm10) d7_readOccurrence_234 ?_
  refine g_iload hK 5 rfl d7_readOccurrence_237 ?_
  refine g_aload_n hK 0 rfl rfl d7_readOccurrence_239 ?_
  refine g_getI hK zfin_7 (fa_7_20 kc_292) q_1217 d7_readOccurrence_240 (fun hf11 => ?_)
  refine g_iast hK hf11 (pt_6_at_k hm10) d7_readOccurrence_243 (fun _ => ?_)
  refine g_ltM (fun m11 => ?_)
  refine g_aload_n hK 0 rfl rfl d7_readOccurrence_244 ?_
  refine g_getM hK zfin_7 (fa_7_13 kc_292) q_1210 (w := 6) (by decide) d7_readOccurrence_245 (fun hm11 => ?_)
  refine g_getRN hK zfin_6 (fa_6_12 hm11) qn_1161 (pt_6_to hm11) d7_readOccurrence_248 ?_
  refine g_iload hK 5 rfl d7_readOccurrence_251 ?_
  refine g_aload_n hK 0 rfl rfl d7_readOccurrence_253 ?_
  refine g_getI hK zfin_7 (fa_7_20 kc_292) q_1217 d7_readOccurrence_254 (fun hf12 => ?_)
  refine g_iast hK hf12 (pt_6_to_k hm11) d7_readOccurrence_257 (fun _ => ?_)
  refine g_ltM (fun m12 => ?_)
  refine g_aload_n hK 0 rfl rfl d7_readOccurrence_258 ?_
  refine g_getM hK zfin_7 (fa_7_13 kc_292) q_1210 (w := 6) (by decide) d7_readOccurrence_259 (fun hm12 => ?_)
  refine g_getRN hK zfin_6 (fa_6_13 hm12) qn_1163 (pt_6_deep hm12) d7_readOccurrence_262 ?_
  refine g_iload hK 5 rfl d7_readOccurrence_265 ?_
  refine g_aload_n hK 0 rfl rfl d7_readOccurrence_267 ?_
  refine g_getI hK zfin_7 (fa_7_19 kc_292) q_1216 d7_readOccurrence_268 (fun hf13 => ?_)
  refine g_iast hK hf13 (pt_6_deep_k hm12) d7_readOccurrence_271 (fun _ => ?_)
  refine g_ltM (fun m13 => ?_)
  refine g_aload_n hK 0 rfl rfl d7_readOccurrence_272 ?_
  refine g_iload hK 3 rfl d7_readOccurrence_273 ?_
  refine g_callVcm hK (rm := rm7_dependsOn) (cb := 0) (sb := 0) (As := [.int (zi x4)]) (b := 292) (n := 1) (c7_dependsOn K.2.1 hK.2.2.2.2.2.2.2.2.1 Z x4 m13 hx4) rfl (ci := 7) rfl (by decide) kc_292 q_1393 q_1395 qs_7_dependsOn q_7 q_1396 rfl (by decide +kernel) (by decide) (Nat.le_of_ble_eq_true rfl) (Nat.le_of_ble_eq_true rfl) (Nat.le_of_ble_eq_true rfl) rfl d7_readOccurrence_275 (fun m14 hm14 => ?_)
  refine g_aload_n hK 0 rfl rfl d7_readOccurrence_278 ?_
  refine g_sipush hK d7_readOccurrence_279 zks1000 ?_
  refine g_iload hK 4 rfl d7_readOccurrence_282 ?_
  refine g_iadd hK d7_readOccurrence_284 (fun v10 hv10 => ?_)
  refine g_callVcm hK (rm := rm7_item) (cb := 0) (sb := 0) (As := [.int (zi v10)]) (b := 292) (n := 1) (c7_item K.2.1 hK.2.2.2.2.2.2.2.2.1 Z v10 m14 hv10) rfl (ci := 7) rfl (by decide) kc_292 q_1378 q_1380 qs_7_item q_7 q_1381 rfl (by decide +kernel) (by decide) (Nat.le_of_ble_eq_true rfl) (Nat.le_of_ble_eq_true rfl) (Nat.le_of_ble_eq_true rfl) rfl d7_readOccurrence_285 (fun m15 hm15 => ?_)
  refine g_iload_n hK 2 rfl rfl d7_readOccurrence_288 ?_
  refine g_if_eq hK hx2 (tgt := 304) (by decide) d7_readOccurrence_289 (fun _ => ?_) (fun _ => ?_)
  · refine g_iconst hK d7_readOccurrence_304 zki1 ?_
    refine g_goto hK (tgt := 309) (by decide) d7_readOccurrence_305 ?_
    exact g_zret hK (by decide) rfl rfl d7_readOccurrence_309
  · refine g_aload_n hK 0 rfl rfl d7_readOccurrence_292 ?_
    refine g_iload_n hK 1 rfl rfl d7_readOccurrence_293 ?_
    refine g_iload hK 5 rfl d7_readOccurrence_294 ?_
    refine g_iload hK 4 rfl d7_readOccurrence_296 ?_
    refine g_callVcl hK (mk := mkZ) (rm := rm7_readRest) (cb := 0) (sb := 0) (As := [.int (zi a1), .int (zi x6), .int (zi x5)]) (b := 292) (n := 3) (c7_readRest K.2.1 hK.2.2.2.2.2.2.2.2.1 Z a1 x6 x5 m15 ha1 hx6 hx5) rfl (ci := 7) rfl (by decide) kc_292 q_1397 q_1399 qs_7_readRest q_7 q_1400 rfl (by decide +kernel) (by decide) (Nat.le_of_ble_eq_true rfl) (Nat.le_of_ble_eq_true rfl) (Nat.le_of_ble_eq_true rfl) rfl d7_readOccurrence_298 (fun r8 m16 hr8 hpr8 => ?_)
    refine g_if_eq hK (zb_r r8) (tgt := 308) (by decide) d7_readOccurrence_301 (fun _ => ?_) (fun _ => ?_)
    · refine g_iconst hK d7_readOccurrence_308 zki0 ?_
      exact g_zret hK (by decide) rfl rfl d7_readOccurrence_309
    · refine g_iconst hK d7_readOccurrence_304 zki1 ?_
      refine g_goto hK (tgt := 309) (by decide) d7_readOccurrence_305 ?_
      exact g_zret hK (by decide) rfl rfl d7_readOccurrence_309
set_option maxRecDepth 20000 in
theorem p7_readOccurrence_33 {K : zK} {Z : zZ} (hcx : zOk K Z b7_readOccurrence RX7 7 (some .boolean) 2 55 0 0 ∧ ∀ x ∈ K.2.2.2.2.2.2.2.2.2.exceptionTable.toList, False) (a1 : Int) (ha1 : zr a1) (x2 : Int) (s0 : Int) (s1 : Int) (μ : zM) (hx2 : zr x2) (hs0 : zr s0) (hs1 : zr s1) : zG K Z (zΩ Z) (zF K Z (zΩ Z) (ze2 mkZ)) 0 0 33 [(0, .ref (Z.2.2.1 + 292)), (1, .int (zi a1)), (2, .int (zi x2))] [.int (zi s0), .int (zi s1), .ref (Z.2.2.1 + 292)] μ (f7_readOccurrence_33 a1 x2 s0 s1 μ) := by
  obtain ⟨hK, hex⟩ := id hcx
  unfold f7_readOccurrence_33
  refine g_iadd hK d7_readOccurrence_33 (fun v1 hv1 => ?_)
  refine g_putI hK zfin_7 (fa_7_14 kc_292) q_1211 hv1 rfl (tyX7_ok 14 (by decide)) tyX7 tyX7_ok nmX7 d7_readOccurrence_34 ?_
  refine g_ltM (fun m1 => ?_)
  refine g_aload_n hK 0 rfl rfl d7_readOccurrence_37 ?_
  refine g_aload_n hK 0 rfl rfl d7_readOccurrence_38 ?_
  refine g_getI hK zfin_7 (fa_7_14 kc_292) q_1211 d7_readOccurrence_39 (fun hf3 => ?_)
  refine g_callVco hK (mk := mkI) (rm := rm7_byteAt) (cb := 0) (sb := 0) (As := [.int (zi (zI m1 292 14))]) (b := 292) (n := 1) (c7_byteAt K.2.1 hK.2.2.2.2.2.2.2.2.1 Z (zI m1 292 14) m1 hf3) rfl (ci := 7) rfl (by decide) kc_292 q_1337 q_1339 qs_7_byteAt q_7 q_1340 rfl (by decide +kernel) (by decide) (Nat.le_of_ble_eq_true rfl) (Nat.le_of_ble_eq_true rfl) (Nat.le_of_ble_eq_true rfl) rfl d7_readOccurrence_42 (fun r2 hr2 hpr2 => ?_)
  refine g_istore_n hK (lv2 := [(0, .ref (Z.2.2.1 + 292)), (1, .int (zi a1)), (2, .int (zi x2)), (3, .int (zi r2))]) [1, 2, 3, 0] rfl rfl (by decide) d7_readOccurrence_45 ?_
  refine g_iload_n hK 3 rfl rfl d7_readOccurrence_46 ?_
  refine g_bipush hK d7_readOccurrence_47 zkb48 ?_
  refine g_bipush hK d7_readOccurrence_49 zkb57 ?_
  refine g_callSco hK (mk := mkZ) (rm := rm7_within) (cb := 0) (sb := 0) (As := [.int (zi r2), .int (zi 48), .int (zi 57)]) (n := 3) (c7_within K.2.1 hK.2.2.2.2.2.2.2.2.1 Z r2 48 57 m1 hpr2 zc48 zc57) q_1344 q_1345 q_7 q_1346 rfl (by decide +kernel) (by decide) (Nat.le_of_ble_eq_true rfl) (Nat.le_of_ble_eq_true rfl) (Nat.le_of_ble_eq_true rfl) rfl d7_readOccurrence_51 (fun r3 hr3 hpr3 => ?_)
  refine g_if_ne hK (zb_r r3) (tgt := 67) (by decide) d7_readOccurrence_54 (fun _ => ?_) (fun _ => ?_)
  · refine g_aload_n hK 0 rfl rfl d7_readOccurrence_67 ?_
    refine g_dup hK d7_readOccurrence_68 rfl ?_
    refine g_getI hK zfin_7 (fa_7_14 kc_292) q_1211 d7_readOccurrence_69 (fun hf4 => ?_)
    refine g_iconst hK d7_readOccurrence_72 zki1 ?_
    refine g_iadd hK d7_readOccurrence_73 (fun v2 hv2 => ?_)
    refine g_putI hK zfin_7 (fa_7_14 kc_292) q_1211 hv2 rfl (tyX7_ok 14 (by decide)) tyX7 tyX7_ok nmX7 d7_readOccurrence_74 ?_
    refine g_ltM (fun m2 => ?_)
    refine g_iload_n hK 3 rfl rfl d7_readOccurrence_77 ?_
    refine g_bipush hK d7_readOccurrence_78 zkb48 ?_
    refine g_isub hK d7_readOccurrence_80 (fun v3 hv3 => ?_)
    refine g_istore hK (lv2 := [(0, .ref (Z.2.2.1 + 292)), (1, .int (zi a1)), (2, .int (zi x2)), (3, .int (zi r2)), (4, .int (zi v3))]) [1, 2, 3, 4, 0] rfl (by decide) d7_readOccurrence_81 ?_
    refine g_aload_n hK 0 rfl rfl d7_readOccurrence_83 ?_
    refine g_getM hK zfin_7 (fa_7_13 kc_292) q_1210 (w := 6) (by decide) d7_readOccurrence_84 (fun hm1 => ?_)
    refine g_getRN hK zfin_6 (fa_6_6 hm1) qn_1149 (pt_6_occurrences hm1) d7_readOccurrence_87 ?_
    refine g_aload_n hK 0 rfl rfl d7_readOccurrence_90 ?_
    refine g_getM hK zfin_7 (fa_7_13 kc_292) q_1210 (w := 6) (by decide) d7_readOccurrence_91 (fun hm2 => ?_)
    refine g_getIN hK zfin_6 (fa_6_0 hm2) qn_1138 d7_readOccurrence_94 (fun hf5 => ?_)
    refine g_iald hK (pt_6_occurrences_k hm1) d7_readOccurrence_97 (fun _ hl1 => ?_)
    refine g_ltI hl1 (fun v4 hv4 => ?_)
    refine g_istore hK (lv2 := [(0, .ref (Z.2.2.1 + 292)), (1, .int (zi a1)), (2, .int (zi x2)), (3, .int (zi r2)), (4, .int (zi v3)), (5, .int (zi v4))]) [1, 2, 3, 4, 5, 0] rfl (by decide) d7_readOccurrence_98 ?_
    refine g_aload_n hK 0 rfl rfl d7_readOccurrence_100 ?_
    refine g_iload hK 4 rfl d7_readOccurrence_101 ?_
    refine g_callVco hK (mk := mkZ) (rm := rm7_turnsBack) (cb := 0) (sb := 0) (As := [.int (zi v3)]) (b := 292) (n := 1) (c7_turnsBack K.2.1 hK.2.2.2.2.2.2.2.2.1 Z v3 m2 hv3) rfl (ci := 7) rfl (by decide) kc_292 q_1386 q_1388 qs_7_turnsBack q_7 q_1389 rfl (by decide +kernel) (by decide) (Nat.le_of_ble_eq_true rfl) (Nat.le_of_ble_eq_true rfl) (Nat.le_of_ble_eq_true rfl) rfl d7_readOccurrence_103 (fun r4 hr4 hpr4 => ?_)
    refine g_if_eq hK (zb_r r4) (tgt := 116) (by decide) d7_readOccurrence_106 (fun _ => ?_) (fun _ => ?_)
    · refine g_iload hK 5 rfl d7_readOccurrence_116 ?_
      refine g_bipush hK d7_readOccurrence_118 zkb60 ?_
      refine g_icmp_ne hK hv4 zc60 (tgt := 130) (by decide) d7_readOccurrence_120 (fun _ => ?_) (fun _ => ?_)
      · refine g_bipush hK d7_readOccurrence_130 zkb60 ?_
        refine g_aload_n hK 0 rfl rfl d7_readOccurrence_132 ?_
        refine g_getM hK zfin_7 (fa_7_13 kc_292) q_1210 (w := 6) (by decide) d7_readOccurrence_133 (fun hm3 => ?_)
        refine g_getIN hK zfin_6 (fa_6_0 hm3) qn_1138 d7_readOccurrence_136 (fun hf6 => ?_)
        refine g_imul hK d7_readOccurrence_139 (fun v5 hv5 => ?_)
        refine g_iload hK 5 rfl d7_readOccurrence_140 ?_
        refine g_iadd hK d7_readOccurrence_142 (fun v6 hv6 => ?_)
        refine g_istore hK (lv2 := [(0, .ref (Z.2.2.1 + 292)), (1, .int (zi a1)), (2, .int (zi x2)), (3, .int (zi r2)), (4, .int (zi v3)), (5, .int (zi v4)), (6, .int (zi v6))]) [1, 2, 3, 4, 5, 6, 0] rfl (by decide) d7_readOccurrence_143 ?_
        refine g_aload_n hK 0 rfl rfl d7_readOccurrence_145 ?_
        refine g_getM hK zfin_7 (fa_7_13 kc_292) q_1210 (w := 6) (by decide) d7_readOccurrence_146 (fun hm4 => ?_)
        refine g_getRN hK zfin_6 (fa_6_6 hm4) qn_1149 (pt_6_occurrences hm4) d7_readOccurrence_149 ?_
        refine g_aload_n hK 0 rfl rfl d7_readOccurrence_152 ?_
        refine g_getM hK zfin_7 (fa_7_13 kc_292) q_1210 (w := 6) (by decide) d7_readOccurrence_153 (fun hm5 => ?_)
        refine g_getIN hK zfin_6 (fa_6_0 hm5) qn_1138 d7_readOccurrence_156 (fun hf7 => ?_)
        refine g_ltI hf7 (fun v7 hv7 => ?_)
        refine g_dup2 hK d7_readOccurrence_159 rfl rfl ?_
        refine g_iald hK (pt_6_occurrences_k hm4) d7_readOccurrence_160 (fun _ hl2 => ?_)
        refine g_iconst hK d7_readOccurrence_161 zki1 ?_
        refine g_iadd hK d7_readOccurrence_162 (fun v8 hv8 => ?_)
        refine g_iast hK hv8 (pt_6_occurrences_k hm4) d7_readOccurrence_163 (fun _ => ?_)
        refine g_ltM (fun m3 => ?_)
        refine g_aload_n hK 0 rfl rfl d7_readOccurrence_164 ?_
        refine g_getM hK zfin_7 (fa_7_13 kc_292) q_1210 (w := 6) (by decide) d7_readOccurrence_165 (fun hm6 => ?_)
        refine g_getRN hK zfin_6 (fa_6_7 hm6) qn_1151 (pt_6_field hm6) d7_readOccurrence_168 ?_
        refine g_iload hK 6 rfl d7_readOccurrence_171 ?_
        refine g_iload hK 4 rfl d7_readOccurrence_173 ?_
        refine g_iast hK hv3 (pt_6_field_k hm6) d7_readOccurrence_175 (fun _ => ?_)
        refine g_ltM (fun m4 => ?_)
        refine g_aload_n hK 0 rfl rfl d7_readOccurrence_176 ?_
        refine g_getM hK zfin_7 (fa_7_13 kc_292) q_1210 (w := 6) (by decide) d7_readOccurrence_177 (fun hm7 => ?_)
        refine g_getRN hK zfin_6 (fa_6_8 hm7) qn_1153 (pt_6_change hm7) d7_readOccurrence_180 ?_
        refine g_iload hK 6 rfl d7_readOccurrence_183 ?_
        refine g_iconst hK d7_readOccurrence_185 zki0 ?_
        refine g_iast hK zc0 (pt_6_change_k hm7) d7_readOccurrence_186 (fun _ => ?_)
        refine g_ltM (fun m5 => ?_)
        refine g_aload_n hK 0 rfl rfl d7_readOccurrence_187 ?_
        refine g_getM hK zfin_7 (fa_7_13 kc_292) q_1210 (w := 6) (by decide) d7_readOccurrence_188 (fun hm8 => ?_)
        refine g_getRN hK zfin_6 (fa_6_9 hm8) qn_1155 (pt_6_hasDefault hm8) d7_readOccurrence_191 ?_
        refine g_iload hK 6 rfl d7_readOccurrence_194 ?_
        refine g_iconst hK d7_readOccurrence_196 zki0 ?_
        refine g_zast hK (pt_6_hasDefault_k hm8) d7_readOccurrence_197 (fun _ => ?_)
        refine g_ltM (fun m6 => ?_)
        refine g_aload_n hK 0 rfl rfl d7_readOccurrence_198 ?_
        refine g_getM hK zfin_7 (fa_7_13 kc_292) q_1210 (w := 6) (by decide) d7_readOccurrence_199 (fun hm9 => ?_)
        refine g_getRN hK zfin_6 (fa_6_10 hm9) qn_1157 (pt_6_parent hm9) d7_readOccurrence_202 ?_
        refine g_iload hK 6 rfl d7_readOccurrence_205 ?_
        refine g_aload_n hK 0 rfl rfl d7_readOccurrence_207 ?_
        refine g_getI hK zfin_7 (fa_7_19 kc_292) q_1216 d7_readOccurrence_208 (fun hf8 => ?_)
        refine g_if_ne hK hf8 (tgt := 218) (by decide) d7_readOccurrence_211 (fun _ => ?_) (fun _ => ?_)
        · refine g_aload_n hK 0 rfl rfl d7_readOccurrence_218 ?_
          refine g_getR hK zfin_7 (fa_7_18 kc_292) q_1215 (r := 328) (by decide +kernel) d7_readOccurrence_219 ?_
          refine g_aload_n hK 0 rfl rfl d7_readOccurrence_222 ?_
          refine g_getI hK zfin_7 (fa_7_19 kc_292) q_1216 d7_readOccurrence_223 (fun hf9 => ?_)
          refine g_iconst hK d7_readOccurrence_226 zki1 ?_
          refine g_isub hK d7_readOccurrence_227 (fun v9 hv9 => ?_)
          refine g_iald hK kc_328 d7_readOccurrence_228 (fun _ hl3 => ?_)
          refine g_lv (lv2 := [(0, .ref (Z.2.2.1 + 292)), (1, .int (zi a1)), (2, .int (zi x2)), (4, .int (zi v3)), (5, .int (zi v4)), (6, .int (zi v6))]) [0, 1, 2, 4, 5, 6] rfl ?_
          exact p7_readOccurrence_229 hcx a1 ha1  x2 v3 v4 v6 (zI m6 328 (zx v9)) v6 ((zR m6 292 13) + 9) m6 hx2 hv3 hv4 hv6 hl3 hv6 (pt_6_parent_k hm9)
        · refine g_iconst hK d7_readOccurrence_214 zkim1 ?_
          refine g_goto hK (tgt := 229) (by decide) d7_readOccurrence_215 ?_
          refine g_lv (lv2 := [(0, .ref (Z.2.2.1 + 292)), (1, .int (zi a1)), (2, .int (zi x2)), (4, .int (zi v3)), (5, .int (zi v4)), (6, .int (zi v6))]) [0, 1, 2, 4, 5, 6] rfl ?_
          exact p7_readOccurrence_229 hcx a1 ha1  x2 v3 v4 v6 (-1) v6 ((zR m6 292 13) + 9) m6 hx2 hv3 hv4 hv6 zcm1 hv6 (pt_6_parent_k hm9)
      · refine g_aload_n hK 0 rfl rfl d7_readOccurrence_123 ?_
        refine g_iconst hK d7_readOccurrence_124 zki5 ?_
        refine g_iload_n hK 1 rfl rfl d7_readOccurrence_125 ?_
        refine g_callVcl hK (mk := mkZ) (rm := rm7_fails) (cb := 0) (sb := 0) (As := [.int (zi 5), .int (zi a1)]) (b := 292) (n := 2) (c7_fails K.2.1 hK.2.2.2.2.2.2.2.2.1 Z 5 a1 m2 zc5 ha1) rfl (ci := 7) rfl (by decide) kc_292 q_1358 q_1360 qs_7_fails q_7 q_1361 rfl (by decide +kernel) (by decide) (Nat.le_of_ble_eq_true rfl) (Nat.le_of_ble_eq_true rfl) (Nat.le_of_ble_eq_true rfl) rfl d7_readOccurrence_126 (fun r5 m7 hr5 hpr5 => ?_)
        exact g_zret hK (zb01 _) rfl rfl d7_readOccurrence_129
    · refine g_aload_n hK 0 rfl rfl d7_readOccurrence_109 ?_
      refine g_iconst hK d7_readOccurrence_110 zki4 ?_
      refine g_iload_n hK 1 rfl rfl d7_readOccurrence_111 ?_
      refine g_callVcl hK (mk := mkZ) (rm := rm7_fails) (cb := 0) (sb := 0) (As := [.int (zi 4), .int (zi a1)]) (b := 292) (n := 2) (c7_fails K.2.1 hK.2.2.2.2.2.2.2.2.1 Z 4 a1 m2 zc4 ha1) rfl (ci := 7) rfl (by decide) kc_292 q_1358 q_1360 qs_7_fails q_7 q_1361 rfl (by decide +kernel) (by decide) (Nat.le_of_ble_eq_true rfl) (Nat.le_of_ble_eq_true rfl) (Nat.le_of_ble_eq_true rfl) rfl d7_readOccurrence_112 (fun r6 m8 hr6 hpr6 => ?_)
      exact g_zret hK (zb01 _) rfl rfl d7_readOccurrence_115
  · refine g_aload_n hK 0 rfl rfl d7_readOccurrence_57 ?_
    refine g_iconst hK d7_readOccurrence_58 zki1 ?_
    refine g_aload_n hK 0 rfl rfl d7_readOccurrence_59 ?_
    refine g_getI hK zfin_7 (fa_7_14 kc_292) q_1211 d7_readOccurrence_60 (fun hf10 => ?_)
    refine g_callVcl hK (mk := mkZ) (rm := rm7_fails) (cb := 0) (sb := 0) (As := [.int (zi 1), .int (zi (zI m1 292 14))]) (b := 292) (n := 2) (c7_fails K.2.1 hK.2.2.2.2.2.2.2.2.1 Z 1 (zI m1 292 14) m1 zc1 hf10) rfl (ci := 7) rfl (by decide) kc_292 q_1358 q_1360 qs_7_fails q_7 q_1361 rfl (by decide +kernel) (by decide) (Nat.le_of_ble_eq_true rfl) (Nat.le_of_ble_eq_true rfl) (Nat.le_of_ble_eq_true rfl) rfl d7_readOccurrence_63 (fun r7 m9 hr7 hpr7 => ?_)
    exact g_zret hK (zb01 _) rfl rfl d7_readOccurrence_66
set_option maxRecDepth 20000 in
theorem p7_readOccurrence_18 {K : zK} {Z : zZ} (hcx : zOk K Z b7_readOccurrence RX7 7 (some .boolean) 2 55 0 0 ∧ ∀ x ∈ K.2.2.2.2.2.2.2.2.2.exceptionTable.toList, False) (a1 : Int) (ha1 : zr a1) (s0 : Int) (μ : zM) (hs0 : zr s0) : zG K Z (zΩ Z) (zF K Z (zΩ Z) (ze2 mkZ)) 0 0 18 [(0, .ref (Z.2.2.1 + 292)), (1, .int (zi a1))] [.int (zi s0)] μ (f7_readOccurrence_18 a1 s0 μ) := by
  obtain ⟨hK, hex⟩ := id hcx
  unfold f7_readOccurrence_18
  refine g_istore_n hK (lv2 := [(0, .ref (Z.2.2.1 + 292)), (1, .int (zi a1)), (2, .int (zi s0))]) [1, 2, 0] rfl rfl (by decide) d7_readOccurrence_18 ?_
  refine g_aload_n hK 0 rfl rfl d7_readOccurrence_19 ?_
  refine g_dup hK d7_readOccurrence_20 rfl ?_
  refine g_getI hK zfin_7 (fa_7_14 kc_292) q_1211 d7_readOccurrence_21 (fun hf2 => ?_)
  refine g_iload_n hK 2 rfl rfl d7_readOccurrence_24 ?_
  refine g_if_eq hK hs0 (tgt := 32) (by decide) d7_readOccurrence_25 (fun _ => ?_) (fun _ => ?_)
  · refine g_iconst hK d7_readOccurrence_32 zki0 ?_
    exact p7_readOccurrence_33 hcx a1 ha1  s0 0 (zI μ 292 14) μ hs0 zc0 hf2
  · refine g_iconst hK d7_readOccurrence_28 zki1 ?_
    refine g_goto hK (tgt := 33) (by decide) d7_readOccurrence_29 ?_
    exact p7_readOccurrence_33 hcx a1 ha1  s0 1 (zI μ 292 14) μ hs0 zc1 hf2
set_option maxRecDepth 20000 in
theorem c7_readOccurrence (l : Launch) (hst : l.stackTraces = false) (Z : zZ) (a1 : Int) (μ : zM) (ha1 : zr a1) : ∀ x, f7_readOccurrence a1 μ = some x → zCt l Z (zΩ Z) y7_readOccurrence (zws (.code y7_readOccurrence b7_readOccurrence 7 (some .boolean))) rm7_readOccurrence [.ref (Z.2.2.1 + 292), .int (zi a1)] μ (ze2 mkZ x) := by
  intro x h
  refine zCt.of (enc := (ze2 mkZ)) h (by decide) hst (Nat.le_of_ble_eq_true rfl) (fun K hK0 hex hl _ => ?_)
  subst hl
  have hcx : zOk K Z b7_readOccurrence RX7 7 (some .boolean) 2 55 0 0 ∧ ∀ x ∈ K.2.2.2.2.2.2.2.2.2.exceptionTable.toList, False := ⟨hK0, hex⟩
  have hK := hcx.1
  show zG K Z (zΩ Z) (zF K Z (zΩ Z) (ze2 mkZ)) 0 0 0 [(0, .ref (Z.2.2.1 + 292)), (1, .int (zi a1))] [] μ (f7_readOccurrence a1 μ)
  unfold f7_readOccurrence
  refine g_aload_n hK 0 rfl rfl d7_readOccurrence_0 ?_
  refine g_aload_n hK 0 rfl rfl d7_readOccurrence_1 ?_
  refine g_getI hK zfin_7 (fa_7_14 kc_292) q_1211 d7_readOccurrence_2 (fun hf1 => ?_)
  refine g_callVco hK (mk := mkI) (rm := rm7_byteAt) (cb := 0) (sb := 0) (As := [.int (zi (zI μ 292 14))]) (b := 292) (n := 1) (c7_byteAt K.2.1 hK.2.2.2.2.2.2.2.2.1 Z (zI μ 292 14) μ hf1) rfl (ci := 7) rfl (by decide) kc_292 q_1337 q_1339 qs_7_byteAt q_7 q_1340 rfl (by decide +kernel) (by decide) (Nat.le_of_ble_eq_true rfl) (Nat.le_of_ble_eq_true rfl) (Nat.le_of_ble_eq_true rfl) rfl d7_readOccurrence_5 (fun r1 hr1 hpr1 => ?_)
  refine g_bipush hK d7_readOccurrence_8 zkb123 ?_
  refine g_icmp_ne hK hpr1 zc123 (tgt := 17) (by decide) d7_readOccurrence_10 (fun _ => ?_) (fun _ => ?_)
  · refine g_iconst hK d7_readOccurrence_17 zki0 ?_
    exact p7_readOccurrence_18 hcx a1 ha1  0 μ zc0
  · refine g_iconst hK d7_readOccurrence_13 zki1 ?_
    refine g_goto hK (tgt := 18) (by decide) d7_readOccurrence_14 ?_
    exact p7_readOccurrence_18 hcx a1 ha1  1 μ zc1
set_option maxRecDepth 20000 in
theorem p7_readBody_48 {K : zK} {Z : zZ} (hcx : zOk K Z b7_readBody RX7 4 (some .boolean) 3 81 0 0 ∧ ∀ x ∈ K.2.2.2.2.2.2.2.2.2.exceptionTable.toList, False) (k7 : Int → zM → Option (Bool × zM)) (hk7 : ∀ (x1 : Int) (μ : zM) (hx1 : zr x1), zG K Z (zΩ Z) (zF K Z (zΩ Z) (ze2 mkZ)) 0 0 7 [(0, .ref (Z.2.2.1 + 292)), (1, .int (zi x1))] [] μ (k7 x1 μ)) (s0 : Int) (μ : zM) (hs0 : zr s0) : zG K Z (zΩ Z) (zF K Z (zΩ Z) (ze2 mkZ)) 0 0 48 [(0, .ref (Z.2.2.1 + 292))] [.int (zi s0)] μ (f7_readBody_48 k7 s0 μ) := by
  obtain ⟨hK, hex⟩ := id hcx
  unfold f7_readBody_48
  refine g_istore_n hK (lv2 := [(0, .ref (Z.2.2.1 + 292)), (1, .int (zi s0))]) [1, 0] rfl rfl (by decide) d7_readBody_48 ?_
  refine g_iload_n hK 1 rfl rfl d7_readBody_49 ?_
  refine g_if_eq hK hs0 (tgt := 223) (by decide) d7_readBody_50 (fun _ => ?_) (fun _ => ?_)
  · refine g_goto hK (tgt := 7) (by decide) d7_readBody_223 ?_
    exact hk7 s0 μ hs0
  · refine g_aload_n hK 0 rfl rfl d7_readBody_53 ?_
    refine g_dup hK d7_readBody_54 rfl ?_
    refine g_getI hK zfin_7 (fa_7_19 kc_292) q_1216 d7_readBody_55 (fun hf10 => ?_)
    refine g_iconst hK d7_readBody_58 zki1 ?_
    refine g_isub hK d7_readBody_59 (fun v6 hv6 => ?_)
    refine g_putI hK zfin_7 (fa_7_19 kc_292) q_1216 hv6 rfl (tyX7_ok 19 (by decide)) tyX7 tyX7_ok nmX7 d7_readBody_60 ?_
    refine g_ltM (fun m10 => ?_)
    refine g_aload_n hK 0 rfl rfl d7_readBody_63 ?_
    refine g_getM hK zfin_7 (fa_7_13 kc_292) q_1210 (w := 6) (by decide) d7_readBody_64 (fun hm1 => ?_)
    refine g_getRN hK zfin_6 (fa_6_12 hm1) qn_1161 (pt_6_to hm1) d7_readBody_67 ?_
    refine g_bipush hK d7_readBody_70 zkb60 ?_
    refine g_aload_n hK 0 rfl rfl d7_readBody_72 ?_
    refine g_getM hK zfin_7 (fa_7_13 kc_292) q_1210 (w := 6) (by decide) d7_readBody_73 (fun hm2 => ?_)
    refine g_getIN hK zfin_6 (fa_6_0 hm2) qn_1138 d7_readBody_76 (fun hf11 => ?_)
    refine g_imul hK d7_readBody_79 (fun v7 hv7 => ?_)
    refine g_aload_n hK 0 rfl rfl d7_readBody_80 ?_
    refine g_getR hK zfin_7 (fa_7_18 kc_292) q_1215 (r := 328) (by decide +kernel) d7_readBody_81 ?_
    refine g_aload_n hK 0 rfl rfl d7_readBody_84 ?_
    refine g_getI hK zfin_7 (fa_7_19 kc_292) q_1216 d7_readBody_85 (fun hf12 => ?_)
    refine g_iald hK kc_328 d7_readBody_88 (fun _ hl1 => ?_)
    refine g_iadd hK d7_readBody_89 (fun v8 hv8 => ?_)
    refine g_aload_n hK 0 rfl rfl d7_readBody_90 ?_
    refine g_getI hK zfin_7 (fa_7_20 kc_292) q_1217 d7_readBody_91 (fun hf13 => ?_)
    refine g_iast hK hf13 (pt_6_to_k hm1) d7_readBody_94 (fun _ => ?_)
    refine g_ltM (fun m11 => ?_)
    refine g_aload_n hK 0 rfl rfl d7_readBody_95 ?_
    refine g_sipush hK d7_readBody_96 zks2000 ?_
    refine g_callVcm hK (rm := rm7_item) (cb := 0) (sb := 0) (As := [.int (zi 2000)]) (b := 292) (n := 1) (c7_item K.2.1 hK.2.2.2.2.2.2.2.2.1 Z 2000 m11 zc2000) rfl (ci := 7) rfl (by decide) kc_292 q_1378 q_1380 qs_7_item q_7 q_1381 rfl (by decide +kernel) (by decide) (Nat.le_of_ble_eq_true rfl) (Nat.le_of_ble_eq_true rfl) (Nat.le_of_ble_eq_true rfl) rfl d7_readBody_99 (fun m12 hm12 => ?_)
    refine g_goto hK (tgt := 223) (by decide) d7_readBody_102 ?_
    refine g_goto hK (tgt := 7) (by decide) d7_readBody_223 ?_
    exact hk7 s0 m12 hs0
set_option maxRecDepth 20000 in
theorem p7_readBody_195 {K : zK} {Z : zZ} (hcx : zOk K Z b7_readBody RX7 4 (some .boolean) 3 81 0 0 ∧ ∀ x ∈ K.2.2.2.2.2.2.2.2.2.exceptionTable.toList, False) (k7 : Int → zM → Option (Bool × zM)) (hk7 : ∀ (x1 : Int) (μ : zM) (hx1 : zr x1), zG K Z (zΩ Z) (zF K Z (zΩ Z) (ze2 mkZ)) 0 0 7 [(0, .ref (Z.2.2.1 + 292)), (1, .int (zi x1))] [] μ (k7 x1 μ)) (x1 : Int) (x2 : Int) (μ : zM) (hx1 : zr x1) (hx2 : zr x2) : zG K Z (zΩ Z) (zF K Z (zΩ Z) (ze2 mkZ)) 0 0 195 [(0, .ref (Z.2.2.1 + 292)), (1, .int (zi x1)), (2, .int (zi x2))] [] μ (f7_readBody_195 k7 x1 x2 μ) := by
  obtain ⟨hK, hex⟩ := id hcx
  unfold f7_readBody_195
  refine g_aload_n hK 0 rfl rfl d7_readBody_195 ?_
  refine g_iload_n hK 2 rfl rfl d7_readBody_196 ?_
  refine g_callVcm hK (rm := rm7_item) (cb := 0) (sb := 0) (As := [.int (zi x2)]) (b := 292) (n := 1) (c7_item K.2.1 hK.2.2.2.2.2.2.2.2.1 Z x2 μ hx2) rfl (ci := 7) rfl (by decide) kc_292 q_1378 q_1380 qs_7_item q_7 q_1381 rfl (by decide +kernel) (by decide) (Nat.le_of_ble_eq_true rfl) (Nat.le_of_ble_eq_true rfl) (Nat.le_of_ble_eq_true rfl) rfl d7_readBody_197 (fun m6 hm6 => ?_)
  refine g_aload_n hK 0 rfl rfl d7_readBody_200 ?_
  refine g_dup hK d7_readBody_201 rfl ?_
  refine g_getI hK zfin_7 (fa_7_14 kc_292) q_1211 d7_readBody_202 (fun hf8 => ?_)
  refine g_iconst hK d7_readBody_205 zki1 ?_
  refine g_iadd hK d7_readBody_206 (fun v4 hv4 => ?_)
  refine g_putI hK zfin_7 (fa_7_14 kc_292) q_1211 hv4 rfl (tyX7_ok 14 (by decide)) tyX7 tyX7_ok nmX7 d7_readBody_207 ?_
  refine g_ltM (fun m7 => ?_)
  refine g_goto hK (tgt := 223) (by decide) d7_readBody_210 ?_
  refine g_goto hK (tgt := 7) (by decide) d7_readBody_223 ?_
  refine g_lv (lv2 := [(0, .ref (Z.2.2.1 + 292)), (1, .int (zi x1))]) [0, 1] rfl ?_
  exact hk7 x1 m7 hx1
set_option maxRecDepth 20000 in
theorem p7_readBody_142 {K : zK} {Z : zZ} (hcx : zOk K Z b7_readBody RX7 4 (some .boolean) 3 81 0 0 ∧ ∀ x ∈ K.2.2.2.2.2.2.2.2.2.exceptionTable.toList, False) (k7 : Int → zM → Option (Bool × zM)) (hk7 : ∀ (x1 : Int) (μ : zM) (hx1 : zr x1), zG K Z (zΩ Z) (zF K Z (zΩ Z) (ze2 mkZ)) 0 0 7 [(0, .ref (Z.2.2.1 + 292)), (1, .int (zi x1))] [] μ (k7 x1 μ)) (x1 : Int) (x3 : Int) (μ : zM) (hx1 : zr x1) (hx3 : zr x3) : zG K Z (zΩ Z) (zF K Z (zΩ Z) (ze2 mkZ)) 0 0 142 [(0, .ref (Z.2.2.1 + 292)), (1, .int (zi x1)), (3, .int (zi x3))] [] μ (f7_readBody_142 k7 x1 x3 μ) := by
  obtain ⟨hK, hex⟩ := id hcx
  unfold f7_readBody_142
  refine g_aload_n hK 0 rfl rfl d7_readBody_142 ?_
  refine g_iload_n hK 2 rfl rfl d7_readBody_143 ?_
  refine g_callVcm hK (rm := rm7_item) (cb := 0) (sb := 0) (As := [.int (zi x3)]) (b := 292) (n := 1) (c7_item K.2.1 hK.2.2.2.2.2.2.2.2.1 Z x3 μ hx3) rfl (ci := 7) rfl (by decide) kc_292 q_1378 q_1380 qs_7_item q_7 q_1381 rfl (by decide +kernel) (by decide) (Nat.le_of_ble_eq_true rfl) (Nat.le_of_ble_eq_true rfl) (Nat.le_of_ble_eq_true rfl) rfl d7_readBody_144 (fun m8 hm8 => ?_)
  refine g_aload_n hK 0 rfl rfl d7_readBody_147 ?_
  refine g_dup hK d7_readBody_148 rfl ?_
  refine g_getI hK zfin_7 (fa_7_14 kc_292) q_1211 d7_readBody_149 (fun hf9 => ?_)
  refine g_iconst hK d7_readBody_152 zki1 ?_
  refine g_iadd hK d7_readBody_153 (fun v5 hv5 => ?_)
  refine g_putI hK zfin_7 (fa_7_14 kc_292) q_1211 hv5 rfl (tyX7_ok 14 (by decide)) tyX7 tyX7_ok nmX7 d7_readBody_154 ?_
  refine g_ltM (fun m9 => ?_)
  refine g_goto hK (tgt := 175) (by decide) d7_readBody_157 ?_
  refine g_goto hK (tgt := 223) (by decide) d7_readBody_175 ?_
  refine g_goto hK (tgt := 7) (by decide) d7_readBody_223 ?_
  refine g_lv (lv2 := [(0, .ref (Z.2.2.1 + 292)), (1, .int (zi x1))]) [0, 1] rfl ?_
  exact hk7 x1 m9 hx1
set_option maxRecDepth 20000 in
theorem p7_readBody_7 {K : zK} {Z : zZ} (hcx : zOk K Z b7_readBody RX7 4 (some .boolean) 3 81 0 0 ∧ ∀ x ∈ K.2.2.2.2.2.2.2.2.2.exceptionTable.toList, False) (k7 : Int → zM → Option (Bool × zM)) (hk7 : ∀ (x1 : Int) (μ : zM) (hx1 : zr x1), zG K Z (zΩ Z) (zF K Z (zΩ Z) (ze2 mkZ)) 0 0 7 [(0, .ref (Z.2.2.1 + 292)), (1, .int (zi x1))] [] μ (k7 x1 μ)) (x1 : Int) (μ : zM) (hx1 : zr x1) : zG K Z (zΩ Z) (zF K Z (zΩ Z) (ze2 mkZ)) 0 0 7 [(0, .ref (Z.2.2.1 + 292)), (1, .int (zi x1))] [] μ (f7_readBody_7 k7 x1 μ) := by
  obtain ⟨hK, hex⟩ := id hcx
  unfold f7_readBody_7
  refine g_iload_n hK 1 rfl rfl d7_readBody_7 ?_
  refine g_if_eq hK hx1 (tgt := 226) (by decide) d7_readBody_8 (fun _ => ?_) (fun _ => ?_)
  · refine g_iconst hK d7_readBody_226 zki1 ?_
    exact g_zret hK (by decide) rfl rfl d7_readBody_227
  · refine g_aload_n hK 0 rfl rfl d7_readBody_11 ?_
    refine g_aload_n hK 0 rfl rfl d7_readBody_12 ?_
    refine g_getI hK zfin_7 (fa_7_14 kc_292) q_1211 d7_readBody_13 (fun hf1 => ?_)
    refine g_callVco hK (mk := mkI) (rm := rm7_byteAt) (cb := 0) (sb := 0) (As := [.int (zi (zI μ 292 14))]) (b := 292) (n := 1) (c7_byteAt K.2.1 hK.2.2.2.2.2.2.2.2.1 Z (zI μ 292 14) μ hf1) rfl (ci := 7) rfl (by decide) kc_292 q_1337 q_1339 qs_7_byteAt q_7 q_1340 rfl (by decide +kernel) (by decide) (Nat.le_of_ble_eq_true rfl) (Nat.le_of_ble_eq_true rfl) (Nat.le_of_ble_eq_true rfl) rfl d7_readBody_16 (fun r1 hr1 hpr1 => ?_)
    refine g_istore_n hK (lv2 := [(0, .ref (Z.2.2.1 + 292)), (1, .int (zi x1)), (2, .int (zi r1))]) [1, 2, 0] rfl rfl (by decide) d7_readBody_19 ?_
    refine g_iload_n hK 2 rfl rfl d7_readBody_20 ?_
    refine g_bipush hK d7_readBody_21 zkb125 ?_
    refine g_icmp_ne hK hpr1 zc125 (tgt := 105) (by decide) d7_readBody_23 (fun _ => ?_) (fun _ => ?_)
    · refine g_iload_n hK 2 rfl rfl d7_readBody_105 ?_
      refine g_bipush hK d7_readBody_106 zkb36 ?_
      refine g_icmp_ne hK hpr1 zc36 (tgt := 178) (by decide) d7_readBody_108 (fun _ => ?_) (fun _ => ?_)
      · refine g_iload_n hK 2 rfl rfl d7_readBody_178 ?_
        refine g_bipush hK d7_readBody_179 zkb10 ?_
        refine g_icmp_eq hK hpr1 zc10 (tgt := 195) (by decide) d7_readBody_181 (fun _ => ?_) (fun _ => ?_)
        · exact p7_readBody_195 hcx k7 hk7 x1 r1 μ hx1 hpr1
        · refine g_iload_n hK 2 rfl rfl d7_readBody_184 ?_
          refine g_bipush hK d7_readBody_185 zkb32 ?_
          refine g_bipush hK d7_readBody_187 zkb126 ?_
          refine g_callSco hK (mk := mkZ) (rm := rm7_within) (cb := 0) (sb := 0) (As := [.int (zi r1), .int (zi 32), .int (zi 126)]) (n := 3) (c7_within K.2.1 hK.2.2.2.2.2.2.2.2.1 Z r1 32 126 μ hpr1 zc32 zc126) q_1344 q_1345 q_7 q_1346 rfl (by decide +kernel) (by decide) (Nat.le_of_ble_eq_true rfl) (Nat.le_of_ble_eq_true rfl) (Nat.le_of_ble_eq_true rfl) rfl d7_readBody_189 (fun r2 hr2 hpr2 => ?_)
          refine g_if_eq hK (zb_r r2) (tgt := 213) (by decide) d7_readBody_192 (fun _ => ?_) (fun _ => ?_)
          · refine g_aload_n hK 0 rfl rfl d7_readBody_213 ?_
            refine g_iconst hK d7_readBody_214 zki1 ?_
            refine g_aload_n hK 0 rfl rfl d7_readBody_215 ?_
            refine g_getI hK zfin_7 (fa_7_14 kc_292) q_1211 d7_readBody_216 (fun hf2 => ?_)
            refine g_callVcl hK (mk := mkZ) (rm := rm7_fails) (cb := 0) (sb := 0) (As := [.int (zi 1), .int (zi (zI μ 292 14))]) (b := 292) (n := 2) (c7_fails K.2.1 hK.2.2.2.2.2.2.2.2.1 Z 1 (zI μ 292 14) μ zc1 hf2) rfl (ci := 7) rfl (by decide) kc_292 q_1358 q_1360 qs_7_fails q_7 q_1361 rfl (by decide +kernel) (by decide) (Nat.le_of_ble_eq_true rfl) (Nat.le_of_ble_eq_true rfl) (Nat.le_of_ble_eq_true rfl) rfl d7_readBody_219 (fun r3 m2 hr3 hpr3 => ?_)
            exact g_zret hK (zb01 _) rfl rfl d7_readBody_222
          · exact p7_readBody_195 hcx k7 hk7 x1 r1 μ hx1 hpr1
      · refine g_aload_n hK 0 rfl rfl d7_readBody_111 ?_
        refine g_dup hK d7_readBody_112 rfl ?_
        refine g_getI hK zfin_7 (fa_7_14 kc_292) q_1211 d7_readBody_113 (fun hf3 => ?_)
        refine g_iconst hK d7_readBody_116 zki1 ?_
        refine g_iadd hK d7_readBody_117 (fun v1 hv1 => ?_)
        refine g_putI hK zfin_7 (fa_7_14 kc_292) q_1211 hv1 rfl (tyX7_ok 14 (by decide)) tyX7 tyX7_ok nmX7 d7_readBody_118 ?_
        refine g_ltM (fun m3 => ?_)
        refine g_aload_n hK 0 rfl rfl d7_readBody_121 ?_
        refine g_aload_n hK 0 rfl rfl d7_readBody_122 ?_
        refine g_getI hK zfin_7 (fa_7_14 kc_292) q_1211 d7_readBody_123 (fun hf4 => ?_)
        refine g_callVco hK (mk := mkI) (rm := rm7_byteAt) (cb := 0) (sb := 0) (As := [.int (zi (zI m3 292 14))]) (b := 292) (n := 1) (c7_byteAt K.2.1 hK.2.2.2.2.2.2.2.2.1 Z (zI m3 292 14) m3 hf4) rfl (ci := 7) rfl (by decide) kc_292 q_1337 q_1339 qs_7_byteAt q_7 q_1340 rfl (by decide +kernel) (by decide) (Nat.le_of_ble_eq_true rfl) (Nat.le_of_ble_eq_true rfl) (Nat.le_of_ble_eq_true rfl) rfl d7_readBody_126 (fun r4 hr4 hpr4 => ?_)
        refine g_istore_n hK (lv2 := [(0, .ref (Z.2.2.1 + 292)), (1, .int (zi x1)), (2, .int (zi r1)), (3, .int (zi r4))]) [1, 2, 3, 0] rfl rfl (by decide) d7_readBody_129 ?_
        refine g_iload_n hK 3 rfl rfl d7_readBody_130 ?_
        refine g_bipush hK d7_readBody_131 zkb36 ?_
        refine g_icmp_eq hK hpr4 zc36 (tgt := 142) (by decide) d7_readBody_133 (fun _ => ?_) (fun _ => ?_)
        · refine g_lv (lv2 := [(0, .ref (Z.2.2.1 + 292)), (1, .int (zi x1)), (3, .int (zi r4))]) [0, 1, 3] rfl ?_
          exact p7_readBody_142 hcx k7 hk7 x1 r4 m3 hx1 hpr4
        · refine g_iload_n hK 3 rfl rfl d7_readBody_136 ?_
          refine g_bipush hK d7_readBody_137 zkb125 ?_
          refine g_icmp_ne hK hpr4 zc125 (tgt := 160) (by decide) d7_readBody_139 (fun _ => ?_) (fun _ => ?_)
          · refine g_aload_n hK 0 rfl rfl d7_readBody_160 ?_
            refine g_aload_n hK 0 rfl rfl d7_readBody_161 ?_
            refine g_getI hK zfin_7 (fa_7_14 kc_292) q_1211 d7_readBody_162 (fun hf5 => ?_)
            refine g_iconst hK d7_readBody_165 zki1 ?_
            refine g_isub hK d7_readBody_166 (fun v2 hv2 => ?_)
            refine g_callVcl hK (mk := mkZ) (rm := rm7_readOccurrence) (cb := 0) (sb := 0) (As := [.int (zi v2)]) (b := 292) (n := 1) (c7_readOccurrence K.2.1 hK.2.2.2.2.2.2.2.2.1 Z v2 m3 hv2) rfl (ci := 7) rfl (by decide) kc_292 q_1382 q_1384 qs_7_readOccurrence q_7 q_1385 rfl (by decide +kernel) (by decide) (Nat.le_of_ble_eq_true rfl) (Nat.le_of_ble_eq_true rfl) (Nat.le_of_ble_eq_true rfl) rfl d7_readBody_167 (fun r5 m4 hr5 hpr5 => ?_)
            refine g_if_ne hK (zb_r r5) (tgt := 175) (by decide) d7_readBody_170 (fun _ => ?_) (fun _ => ?_)
            · refine g_goto hK (tgt := 223) (by decide) d7_readBody_175 ?_
              refine g_goto hK (tgt := 7) (by decide) d7_readBody_223 ?_
              refine g_lv (lv2 := [(0, .ref (Z.2.2.1 + 292)), (1, .int (zi x1))]) [0, 1] rfl ?_
              exact hk7 x1 m4 hx1
            · refine g_iconst hK d7_readBody_173 zki0 ?_
              exact g_zret hK (by decide) rfl rfl d7_readBody_174
          · refine g_lv (lv2 := [(0, .ref (Z.2.2.1 + 292)), (1, .int (zi x1)), (3, .int (zi r4))]) [0, 1, 3] rfl ?_
            exact p7_readBody_142 hcx k7 hk7 x1 r4 m3 hx1 hpr4
    · refine g_aload_n hK 0 rfl rfl d7_readBody_26 ?_
      refine g_dup hK d7_readBody_27 rfl ?_
      refine g_getI hK zfin_7 (fa_7_14 kc_292) q_1211 d7_readBody_28 (fun hf6 => ?_)
      refine g_iconst hK d7_readBody_31 zki1 ?_
      refine g_iadd hK d7_readBody_32 (fun v3 hv3 => ?_)
      refine g_putI hK zfin_7 (fa_7_14 kc_292) q_1211 hv3 rfl (tyX7_ok 14 (by decide)) tyX7 tyX7_ok nmX7 d7_readBody_33 ?_
      refine g_ltM (fun m5 => ?_)
      refine g_aload_n hK 0 rfl rfl d7_readBody_36 ?_
      refine g_getI hK zfin_7 (fa_7_19 kc_292) q_1216 d7_readBody_37 (fun hf7 => ?_)
      refine g_if_le hK hf7 (tgt := 47) (by decide) d7_readBody_40 (fun _ => ?_) (fun _ => ?_)
      · refine g_iconst hK d7_readBody_47 zki0 ?_
        refine g_lv (lv2 := [(0, .ref (Z.2.2.1 + 292))]) [0] rfl ?_
        exact p7_readBody_48 hcx k7 hk7 0 m5 zc0
      · refine g_iconst hK d7_readBody_43 zki1 ?_
        refine g_goto hK (tgt := 48) (by decide) d7_readBody_44 ?_
        refine g_lv (lv2 := [(0, .ref (Z.2.2.1 + 292))]) [0] rfl ?_
        exact p7_readBody_48 hcx k7 hk7 1 m5 zc1
