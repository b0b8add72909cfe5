set_option maxRecDepth 20000 in
theorem p4_take_18 {K : zK} {Z : zZ} (hcx : zOk K Z b4_take RX4 7 (none) 1 60 0 0 ∧ ∀ x ∈ K.2.2.2.2.2.2.2.2.2.exceptionTable.toList, False) (a1 : Nat) (a2 : Nat) (a3 : Int) (ha1 : zkd a1 = 2) (ha2 : zkd a2 = 3) (ha3 : zr a3) (k18 : Int → zM → Option zM) (hk18 : ∀ (x4 : Int) (μ : zM) (hx4 : zr x4), zG K Z (zΩ Z) (zF K Z (zΩ Z) zeM) 0 0 18 [(0, .ref (Z.2.2.1 + 200)), (2, .ref (Z.2.2.1 + a2)), (3, .int (zi a3)), (4, .int (zi x4))] [] μ (k18 x4 μ)) (x4 : Int) (μ : zM) (hx4 : zr x4) : zG K Z (zΩ Z) (zF K Z (zΩ Z) zeM) 0 0 18 [(0, .ref (Z.2.2.1 + 200)), (2, .ref (Z.2.2.1 + a2)), (3, .int (zi a3)), (4, .int (zi x4))] [] μ (f4_take_18 a1 a2 a3 k18 x4 μ) := by
  obtain ⟨hK, hex⟩ := id hcx
  unfold f4_take_18
  refine g_iload hK 3 rfl d4_take_18 ?_
  refine g_bipush hK d4_take_20 zkb10 ?_
  refine g_icmp_ge hK hx4 zc10 (tgt := 82) (by decide) d4_take_22 (fun _ => ?_) (fun _ => ?_)
  · exact g_vret hK rfl rfl d4_take_82
  · refine g_aload_n hK 1 rfl rfl d4_take_25 ?_
    refine g_iload_n hK 2 rfl rfl d4_take_26 ?_
    refine g_iload hK 3 rfl d4_take_27 ?_
    refine g_callVco hK (mk := mkI) (rm := rm3_typedLength) (cb := 0) (sb := 0) (As := [.int (zi a3), .int (zi x4)]) (b := a2) (n := 2) (c3_typedLength K.2.1 hK.2.2.2.2.2.2.2.2.1 Z a2 a3 x4 μ ha2 ha3 hx4) rfl (ci := 3) rfl (by decide) ha2 q_525 q_526 q_527 q_5 q_528 rfl (by decide +kernel) (by decide) (Nat.le_of_ble_eq_true rfl) (Nat.le_of_ble_eq_true rfl) (Nat.le_of_ble_eq_true rfl) rfl d4_take_29 (fun r1 hr1 hpr1 => ?_)
    refine g_istore hK (lv2 := [(0, .ref (Z.2.2.1 + 200)), (2, .ref (Z.2.2.1 + a2)), (3, .int (zi a3)), (4, .int (zi x4)), (5, .int (zi r1))]) [1, 2, 3, 4, 0] rfl (by decide) d4_take_32 ?_
    refine g_iload_n hK 2 rfl rfl d4_take_34 ?_
    refine g_bipush hK d4_take_35 zkb10 ?_
    refine g_imul hK d4_take_37 (fun v1 hv1 => ?_)
    refine g_iload hK 3 rfl d4_take_38 ?_
    refine g_iadd hK d4_take_40 (fun v2 hv2 => ?_)
    refine g_bipush hK d4_take_41 zkb40 ?_
    refine g_imul hK d4_take_43 (fun v3 hv3 => ?_)
    refine g_istore hK (lv2 := [(0, .ref (Z.2.2.1 + 200)), (2, .ref (Z.2.2.1 + a2)), (3, .int (zi a3)), (4, .int (zi x4)), (5, .int (zi r1)), (6, .int (zi v3))]) [1, 2, 3, 4, 5, 0] rfl (by decide) d4_take_44 ?_
    refine g_aload_n hK 0 rfl rfl d4_take_46 ?_
    refine g_getR hK zfin_4 (fa_4_2 kc_200) q_232 (r := 201) (by decide +kernel) d4_take_47 ?_
    refine g_iload hK 3 rfl d4_take_50 ?_
    refine g_iload hK 4 rfl d4_take_52 ?_
    refine g_iast hK hpr1 kc_201 d4_take_54 (fun _ => ?_)
    refine g_ltM (fun m3 => ?_)
    refine g_aload_n hK 1 rfl rfl d4_take_55 ?_
    refine g_getR hK zfin_3 (fa_3_6 ha2) q_196 (pt_3_typedTexts ha2) d4_take_56 ?_
    refine g_iload hK 5 rfl d4_take_59 ?_
    refine g_aload_n hK 0 rfl rfl d4_take_61 ?_
    refine g_getR hK zfin_4 (fa_4_11 kc_200) q_249 (r := 207) (by decide +kernel) d4_take_62 ?_
    refine g_iload hK 3 rfl d4_take_65 ?_
    refine g_sipush hK d4_take_67 zks400 ?_
    refine g_imul hK d4_take_70 (fun v4 hv4 => ?_)
    refine g_iload hK 4 rfl d4_take_71 ?_
    refine g_acopy hK q_529 q_531 q_530 q_20 (pt_3_typedTexts_k ha2) kc_207 (by decide) (Nat.le_of_ble_eq_true (by decide +kernel)) d4_take_73 (fun _ => ?_)
    refine g_ltM (fun m4 => ?_)
    refine g_iinc hK (lv2 := fun v5 => [(0, .ref (Z.2.2.1 + 200)), (2, .ref (Z.2.2.1 + a2)), (3, .int (zi a3)), (4, .int (zi v5)), (5, .int (zi r1)), (6, .int (zi v3))]) 3 rfl [1, 2, 3, 0, 4, 5] (fun _ => rfl) (by decide) d4_take_76 (fun v5 hv5 => ?_)
    refine g_goto hK (tgt := 18) (by decide) d4_take_79 ?_
    refine g_lv (lv2 := [(0, .ref (Z.2.2.1 + 200)), (2, .ref (Z.2.2.1 + a2)), (3, .int (zi a3)), (4, .int (zi v5))]) [0, 1, 2, 3] rfl ?_
    exact hk18 v5 m4 hv5
set_option maxRecDepth 20000 in
theorem l4_take_18 {K : zK} {Z : zZ} (hcx : zOk K Z b4_take RX4 7 (none) 1 60 0 0 ∧ ∀ x ∈ K.2.2.2.2.2.2.2.2.2.exceptionTable.toList, False) (a1 : Nat) (a2 : Nat) (a3 : Int) (ha1 : zkd a1 = 2) (ha2 : zkd a2 = 3) (ha3 : zr a3) : ∀ (i9 : Nat) (x4 : Int) (μ : zM) (hx4 : zr x4), zG K Z (zΩ Z) (zF K Z (zΩ Z) zeM) 0 0 18 [(0, .ref (Z.2.2.1 + 200)), (2, .ref (Z.2.2.1 + a2)), (3, .int (zi a3)), (4, .int (zi x4))] [] μ (zfx (f4_take_18 a1 a2 a3) (fun _ _ => none) i9 x4 μ) := by
  intro i9
  induction i9 with
  | zero => intro x4 μ hx4; exact g_none
  | succ i9 ih => intro x4 μ hx4; exact p4_take_18 hcx a1 a2 a3 ha1 ha2 ha3  (zfx (f4_take_18 a1 a2 a3) (fun _ _ => none) i9) ih x4 μ hx4
set_option maxRecDepth 20000 in
theorem c4_take (l : Launch) (hst : l.stackTraces = false) (Z : zZ) (a1 : Nat) (a2 : Nat) (a3 : Int) (μ : zM) (ha1 : zkd a1 = 2) (ha2 : zkd a2 = 3) (ha3 : zr a3) : ∀ x, f4_take a1 a2 a3 μ = some x → zCt l Z (zΩ Z) y4_take (zws (.code y4_take b4_take 7 (none))) rm4_take [.ref (Z.2.2.1 + 200), .ref (Z.2.2.1 + a1), .ref (Z.2.2.1 + a2), .int (zi a3)] μ (zeM x) := by
  intro x h
  refine zCt.of (enc := zeM) h (by decide) hst (Nat.le_of_ble_eq_true rfl) (fun K hK0 hex hl _ => ?_)
  subst hl
  have hcx : zOk K Z b4_take RX4 7 (none) 1 60 0 0 ∧ ∀ x ∈ K.2.2.2.2.2.2.2.2.2.exceptionTable.toList, False := ⟨hK0, hex⟩
  have hK := hcx.1
  show zG K Z (zΩ Z) (zF K Z (zΩ Z) zeM) 0 0 0 [(0, .ref (Z.2.2.1 + 200)), (1, .ref (Z.2.2.1 + a1)), (2, .ref (Z.2.2.1 + a2)), (3, .int (zi a3))] [] μ (f4_take a1 a2 a3 μ)
  unfold f4_take
  refine g_aload_n hK 0 rfl rfl d4_take_0 ?_
  refine g_aload_n hK 1 rfl rfl d4_take_1 ?_
  refine g_putR hK (r := a1) (w := 2) zfin_4 (fa_4_0 kc_200) q_228 (by decide +kernel) (by decide) ha1 (zkd_ne0 ha1 (by decide)) (fun _ => rfl) (fun _ => rfl) rfl (tyX4_ok 0 (by decide)) tyX4 tyX4_ok nmX4 d4_take_2 ?_
  refine g_ltM (fun m1 => ?_)
  refine g_aload_n hK 0 rfl rfl d4_take_5 ?_
  refine g_aload_n hK 2 rfl rfl d4_take_6 ?_
  refine g_getR hK zfin_3 (fa_3_4 ha2) q_192 (pt_3_typedSets ha2) d4_take_7 ?_
  refine g_iload_n hK 3 rfl rfl d4_take_10 ?_
  refine g_iald hK (pt_3_typedSets_k ha2) d4_take_11 (fun _ hl1 => ?_)
  refine g_putI hK zfin_4 (fa_4_1 kc_200) q_230 hl1 rfl (tyX4_ok 1 (by decide)) tyX4 tyX4_ok nmX4 d4_take_12 ?_
  refine g_ltM (fun m2 => ?_)
  refine g_iconst hK d4_take_15 zki0 ?_
  refine g_istore hK (lv2 := [(0, .ref (Z.2.2.1 + 200)), (1, .ref (Z.2.2.1 + a1)), (2, .ref (Z.2.2.1 + a2)), (3, .int (zi a3)), (4, .int (zi 0))]) [1, 2, 3, 4, 0] rfl (by decide) d4_take_16 ?_
  refine g_lv (lv2 := [(0, .ref (Z.2.2.1 + 200)), (2, .ref (Z.2.2.1 + a2)), (3, .int (zi a3)), (4, .int (zi 0))]) [0, 2, 3, 4] rfl ?_
  exact l4_take_18 hcx a1 a2 a3 ha1 ha2 ha3  zFu 0 m2 zc0
set_option maxRecDepth 20000 in
theorem c4_takeUntouched (l : Launch) (hst : l.stackTraces = false) (Z : zZ) (a1 : Nat) (μ : zM) (ha1 : zkd a1 = 2) : ∀ x, f4_takeUntouched a1 μ = some x → zCt l Z (zΩ Z) y4_takeUntouched (zws (.code y4_takeUntouched b4_takeUntouched 2 (none))) rm4_takeUntouched [.ref (Z.2.2.1 + 200), .ref (Z.2.2.1 + a1)] μ (zeM x) := by
  intro x h
  refine zCt.of (enc := zeM) h (by decide) hst (Nat.le_of_ble_eq_true rfl) (fun K hK0 hex hl _ => ?_)
  subst hl
  have hcx : zOk K Z b4_takeUntouched RX4 2 (none) 0 8 0 0 ∧ ∀ x ∈ K.2.2.2.2.2.2.2.2.2.exceptionTable.toList, False := ⟨hK0, hex⟩
  have hK := hcx.1
  show zG K Z (zΩ Z) (zF K Z (zΩ Z) zeM) 0 0 0 [(0, .ref (Z.2.2.1 + 200)), (1, .ref (Z.2.2.1 + a1))] [] μ (f4_takeUntouched a1 μ)
  unfold f4_takeUntouched
  refine g_aload_n hK 0 rfl rfl d4_takeUntouched_0 ?_
  refine g_aload_n hK 1 rfl rfl d4_takeUntouched_1 ?_
  refine g_putR hK (r := a1) (w := 2) zfin_4 (fa_4_0 kc_200) q_228 (by decide +kernel) (by decide) ha1 (zkd_ne0 ha1 (by decide)) (fun _ => rfl) (fun _ => rfl) rfl (tyX4_ok 0 (by decide)) tyX4 tyX4_ok nmX4 d4_takeUntouched_2 ?_
  refine g_ltM (fun m1 => ?_)
  refine g_aload_n hK 0 rfl rfl d4_takeUntouched_5 ?_
  refine g_iconst hK d4_takeUntouched_6 zki0 ?_
  refine g_putI hK zfin_4 (fa_4_1 kc_200) q_230 zc0 rfl (tyX4_ok 1 (by decide)) tyX4 tyX4_ok nmX4 d4_takeUntouched_7 ?_
  refine g_ltM (fun m2 => ?_)
  exact g_vret hK rfl rfl d4_takeUntouched_10
set_option maxRecDepth 20000 in
theorem c4_supposeTyped (l : Launch) (hst : l.stackTraces = false) (Z : zZ) (a1 : Int) (a2 : Int) (μ : zM) (ha1 : zr a1) (ha2 : zr a2) : ∀ x, f4_supposeTyped a1 a2 μ = some x → zCt l Z (zΩ Z) y4_supposeTyped (zws (.code y4_supposeTyped b4_supposeTyped 3 (none))) rm4_supposeTyped [.ref (Z.2.2.1 + 200), .int (zi a1), .int (zi a2)] μ (zeM x) := by
  intro x h
  refine zCt.of (enc := zeM) h (by decide) hst (Nat.le_of_ble_eq_true rfl) (fun K hK0 hex hl _ => ?_)
  subst hl
  have hcx : zOk K Z b4_supposeTyped RX4 3 (none) 0 8 0 0 ∧ ∀ x ∈ K.2.2.2.2.2.2.2.2.2.exceptionTable.toList, False := ⟨hK0, hex⟩
  have hK := hcx.1
  show zG K Z (zΩ Z) (zF K Z (zΩ Z) zeM) 0 0 0 [(0, .ref (Z.2.2.1 + 200)), (1, .int (zi a1)), (2, .int (zi a2))] [] μ (f4_supposeTyped a1 a2 μ)
  unfold f4_supposeTyped
  refine g_aload_n hK 0 rfl rfl d4_supposeTyped_0 ?_
  refine g_dup hK d4_supposeTyped_1 rfl ?_
  refine g_getI hK zfin_4 (fa_4_1 kc_200) q_230 d4_supposeTyped_2 (fun hf1 => ?_)
  refine g_iconst hK d4_supposeTyped_5 zki1 ?_
  refine g_iload_n hK 1 rfl rfl d4_supposeTyped_6 ?_
  refine g_ishl hK d4_supposeTyped_7 (fun v1 hv1 => ?_)
  refine g_ior hK d4_supposeTyped_8 (fun v2 hv2 => ?_)
  refine g_putI hK zfin_4 (fa_4_1 kc_200) q_230 hv2 rfl (tyX4_ok 1 (by decide)) tyX4 tyX4_ok nmX4 d4_supposeTyped_9 ?_
  refine g_ltM (fun m1 => ?_)
  refine g_aload_n hK 0 rfl rfl d4_supposeTyped_12 ?_
  refine g_getR hK zfin_4 (fa_4_2 kc_200) q_232 (r := 201) (by decide +kernel) d4_supposeTyped_13 ?_
  refine g_iload_n hK 1 rfl rfl d4_supposeTyped_16 ?_
  refine g_iload_n hK 2 rfl rfl d4_supposeTyped_17 ?_
  refine g_iast hK ha2 kc_201 d4_supposeTyped_18 (fun _ => ?_)
  refine g_ltM (fun m2 => ?_)
  exact g_vret hK rfl rfl d4_supposeTyped_19
set_option maxRecDepth 20000 in
theorem c4_supposeNotTyped (l : Launch) (hst : l.stackTraces = false) (Z : zZ) (a1 : Int) (μ : zM) (ha1 : zr a1) : ∀ x, f4_supposeNotTyped a1 μ = some x → zCt l Z (zΩ Z) y4_supposeNotTyped (zws (.code y4_supposeNotTyped b4_supposeNotTyped 2 (none))) rm4_supposeNotTyped [.ref (Z.2.2.1 + 200), .int (zi a1)] μ (zeM x) := by
  intro x h
  refine zCt.of (enc := zeM) h (by decide) hst (Nat.le_of_ble_eq_true rfl) (fun K hK0 hex hl _ => ?_)
  subst hl
  have hcx : zOk K Z b4_supposeNotTyped RX4 2 (none) 0 8 0 0 ∧ ∀ x ∈ K.2.2.2.2.2.2.2.2.2.exceptionTable.toList, False := ⟨hK0, hex⟩
  have hK := hcx.1
  show zG K Z (zΩ Z) (zF K Z (zΩ Z) zeM) 0 0 0 [(0, .ref (Z.2.2.1 + 200)), (1, .int (zi a1))] [] μ (f4_supposeNotTyped a1 μ)
  unfold f4_supposeNotTyped
  refine g_aload_n hK 0 rfl rfl d4_supposeNotTyped_0 ?_
  refine g_dup hK d4_supposeNotTyped_1 rfl ?_
  refine g_getI hK zfin_4 (fa_4_1 kc_200) q_230 d4_supposeNotTyped_2 (fun hf1 => ?_)
  refine g_iconst hK d4_supposeNotTyped_5 zki1 ?_
  refine g_iload_n hK 1 rfl rfl d4_supposeNotTyped_6 ?_
  refine g_ishl hK d4_supposeNotTyped_7 (fun v1 hv1 => ?_)
  refine g_iconst hK d4_supposeNotTyped_8 zkim1 ?_
  refine g_ixor hK d4_supposeNotTyped_9 (fun v2 hv2 => ?_)
  refine g_iand hK d4_supposeNotTyped_10 (fun v3 hv3 => ?_)
  refine g_putI hK zfin_4 (fa_4_1 kc_200) q_230 hv3 rfl (tyX4_ok 1 (by decide)) tyX4 tyX4_ok nmX4 d4_supposeNotTyped_11 ?_
  refine g_ltM (fun m1 => ?_)
  exact g_vret hK rfl rfl d4_supposeNotTyped_14
set_option maxRecDepth 20000 in
theorem c4_isTyped (l : Launch) (hst : l.stackTraces = false) (Z : zZ) (a1 : Int) (μ : zM) (ha1 : zr a1) : ∀ x, f4_isTyped a1 μ = some x → zCt l Z (zΩ Z) y4_isTyped (zws (.code y4_isTyped b4_isTyped 2 (some .boolean))) rm4_isTyped [.ref (Z.2.2.1 + 200), .int (zi a1)] μ (zeP mkZ μ x) := by
  intro x h
  refine zCt.of (enc := (zeP mkZ μ)) h (by decide) hst (Nat.le_of_ble_eq_true rfl) (fun K hK0 hex hl _ => ?_)
  subst hl
  have hcx : zOk K Z b4_isTyped RX4 2 (some .boolean) 0 8 0 0 ∧ ∀ x ∈ K.2.2.2.2.2.2.2.2.2.exceptionTable.toList, False := ⟨hK0, hex⟩
  have hK := hcx.1
  show zG K Z (zΩ Z) (zF K Z (zΩ Z) (zeP mkZ μ)) 0 0 0 [(0, .ref (Z.2.2.1 + 200)), (1, .int (zi a1))] [] μ (f4_isTyped a1 μ)
  unfold f4_isTyped
  refine g_aload_n hK 0 rfl rfl d4_isTyped_0 ?_
  refine g_getI hK zfin_4 (fa_4_1 kc_200) q_230 d4_isTyped_1 (fun hf1 => ?_)
  refine g_iload_n hK 1 rfl rfl d4_isTyped_4 ?_
  refine g_ishr hK d4_isTyped_5 (fun v1 hv1 => ?_)
  refine g_iconst hK d4_isTyped_6 zki1 ?_
  refine g_iand hK d4_isTyped_7 (fun v2 hv2 => ?_)
  refine g_if_eq hK hv2 (tgt := 15) (by decide) d4_isTyped_8 (fun _ => ?_) (fun _ => ?_)
  · refine g_iconst hK d4_isTyped_15 zki0 ?_
    exact g_zret hK (by decide) rfl rfl d4_isTyped_16
  · refine g_iconst hK d4_isTyped_11 zki1 ?_
    refine g_goto hK (tgt := 16) (by decide) d4_isTyped_12 ?_
    exact g_zret hK (by decide) rfl rfl d4_isTyped_16
set_option maxRecDepth 20000 in
theorem c4_isLive (l : Launch) (hst : l.stackTraces = false) (Z : zZ) (a1 : Int) (μ : zM) (ha1 : zr a1) : ∀ x, f4_isLive a1 μ = some x → zCt l Z (zΩ Z) y4_isLive (zws (.code y4_isLive b4_isLive 2 (some .boolean))) rm4_isLive [.ref (Z.2.2.1 + 200), .int (zi a1)] μ (zeP mkZ μ x) := by
  intro x h
  refine zCt.of (enc := (zeP mkZ μ)) h (by decide) hst (Nat.le_of_ble_eq_true rfl) (fun K hK0 hex hl _ => ?_)
  subst hl
  have hcx : zOk K Z b4_isLive RX4 2 (some .boolean) 0 8 0 0 ∧ ∀ x ∈ K.2.2.2.2.2.2.2.2.2.exceptionTable.toList, False := ⟨hK0, hex⟩
  have hK := hcx.1
  show zG K Z (zΩ Z) (zF K Z (zΩ Z) (zeP mkZ μ)) 0 0 0 [(0, .ref (Z.2.2.1 + 200)), (1, .int (zi a1))] [] μ (f4_isLive a1 μ)
  unfold f4_isLive
  refine g_aload_n hK 0 rfl rfl d4_isLive_0 ?_
  refine g_getI hK zfin_4 (fa_4_3 kc_200) q_233 d4_isLive_1 (fun hf1 => ?_)
  refine g_iload_n hK 1 rfl rfl d4_isLive_4 ?_
  refine g_ishr hK d4_isLive_5 (fun v1 hv1 => ?_)
  refine g_iconst hK d4_isLive_6 zki1 ?_
  refine g_iand hK d4_isLive_7 (fun v2 hv2 => ?_)
  refine g_if_eq hK hv2 (tgt := 15) (by decide) d4_isLive_8 (fun _ => ?_) (fun _ => ?_)
  · refine g_iconst hK d4_isLive_15 zki0 ?_
    exact g_zret hK (by decide) rfl rfl d4_isLive_16
  · refine g_iconst hK d4_isLive_11 zki1 ?_
    refine g_goto hK (tgt := 16) (by decide) d4_isLive_12 ?_
    exact g_zret hK (by decide) rfl rfl d4_isLive_16
set_option maxRecDepth 20000 in
theorem c4_isDefaultShown (l : Launch) (hst : l.stackTraces = false) (Z : zZ) (a1 : Int) (μ : zM) (ha1 : zr a1) : ∀ x, f4_isDefaultShown a1 μ = some x → zCt l Z (zΩ Z) y4_isDefaultShown (zws (.code y4_isDefaultShown b4_isDefaultShown 2 (some .boolean))) rm4_isDefaultShown [.ref (Z.2.2.1 + 200), .int (zi a1)] μ (zeP mkZ μ x) := by
  intro x h
  refine zCt.of (enc := (zeP mkZ μ)) h (by decide) hst (Nat.le_of_ble_eq_true rfl) (fun K hK0 hex hl _ => ?_)
  subst hl
  have hcx : zOk K Z b4_isDefaultShown RX4 2 (some .boolean) 0 8 0 0 ∧ ∀ x ∈ K.2.2.2.2.2.2.2.2.2.exceptionTable.toList, False := ⟨hK0, hex⟩
  have hK := hcx.1
  show zG K Z (zΩ Z) (zF K Z (zΩ Z) (zeP mkZ μ)) 0 0 0 [(0, .ref (Z.2.2.1 + 200)), (1, .int (zi a1))] [] μ (f4_isDefaultShown a1 μ)
  unfold f4_isDefaultShown
  refine g_aload_n hK 0 rfl rfl d4_isDefaultShown_0 ?_
  refine g_getR hK zfin_4 (fa_4_5 kc_200) q_237 (r := 203) (by decide +kernel) d4_isDefaultShown_1 ?_
  refine g_aload_n hK 0 rfl rfl d4_isDefaultShown_4 ?_
  refine g_getM hK zfin_4 (fa_4_0 kc_200) q_228 (w := 2) (by decide) d4_isDefaultShown_5 (fun hm1 => ?_)
  refine g_getR hK zfin_2 (fa_2_4 hm1) q_58 (pt_2_fields hm1) d4_isDefaultShown_8 ?_
  refine g_iload_n hK 1 rfl rfl d4_isDefaultShown_11 ?_
  refine g_iald hK (pt_2_fields_k hm1) d4_isDefaultShown_12 (fun _ hl1 => ?_)
  refine g_iald hK kc_203 d4_isDefaultShown_13 (fun _ hl2 => ?_)
  refine g_iload_n hK 1 rfl rfl d4_isDefaultShown_14 ?_
  refine g_icmp_ne hK hl2 ha1 (tgt := 22) (by decide) d4_isDefaultShown_15 (fun _ => ?_) (fun _ => ?_)
  · refine g_iconst hK d4_isDefaultShown_22 zki0 ?_
    exact g_zret hK (by decide) rfl rfl d4_isDefaultShown_23
  · refine g_iconst hK d4_isDefaultShown_18 zki1 ?_
    refine g_goto hK (tgt := 23) (by decide) d4_isDefaultShown_19 ?_
    exact g_zret hK (by decide) rfl rfl d4_isDefaultShown_23
set_option maxRecDepth 20000 in
theorem p4_show_89 {K : zK} {Z : zZ} (hcx : zOk K Z b4_show RX4 4 (none) 1 29 0 0 ∧ ∀ x ∈ K.2.2.2.2.2.2.2.2.2.exceptionTable.toList, False) (k35 : Int → zM → Option zM) (hk35 : ∀ (x1 : Int) (μ : zM) (hx1 : zr x1), zG K Z (zΩ Z) (zF K Z (zΩ Z) zeM) 0 0 35 [(0, .ref (Z.2.2.1 + 200)), (1, .int (zi x1))] [] μ (k35 x1 μ)) (x1 : Int) (x2 : Int) (s0 : Int) (s1 : Int) (μ : zM) (hx1 : zr x1) (hx2 : zr x2) (hs0 : zr s0) (hs1 : zr s1) : zG K Z (zΩ Z) (zF K Z (zΩ Z) zeM) 0 0 89 [(0, .ref (Z.2.2.1 + 200)), (1, .int (zi x1)), (2, .int (zi x2))] [.int (zi s0), .int (zi s1), .ref (Z.2.2.1 + 202)] μ (f4_show_89 k35 x1 x2 s0 s1 μ) := by
  obtain ⟨hK, hex⟩ := id hcx
  unfold f4_show_89
  refine g_zast hK kc_202 d4_show_89 (fun _ => ?_)
  refine g_ltM (fun m4 => ?_)
  refine g_aload_n hK 0 rfl rfl d4_show_90 ?_
  refine g_getR hK zfin_4 (fa_4_4 kc_200) q_235 (r := 202) (by decide +kernel) d4_show_91 ?_
  refine g_iload_n hK 1 rfl rfl d4_show_94 ?_
  refine g_zald hK kc_202 d4_show_95 (fun _ hl3 => ?_)
  refine g_if_eq hK hl3 (tgt := 158) (by decide) d4_show_96 (fun _ => ?_) (fun _ => ?_)
  · refine g_iinc hK (lv2 := fun v4 => [(0, .ref (Z.2.2.1 + 200)), (1, .int (zi v4)), (2, .int (zi x2))]) 1 rfl [1, 0, 2] (fun _ => rfl) (by decide) d4_show_158 (fun v4 hv4 => ?_)
    refine g_goto hK (tgt := 35) (by decide) d4_show_161 ?_
    refine g_lv (lv2 := [(0, .ref (Z.2.2.1 + 200)), (1, .int (zi v4))]) [0, 1] rfl ?_
    exact hk35 v4 m4 hv4
  · refine g_aload_n hK 0 rfl rfl d4_show_99 ?_
    refine g_dup hK d4_show_100 rfl ?_
    refine g_getI hK zfin_4 (fa_4_3 kc_200) q_233 d4_show_101 (fun hf2 => ?_)
    refine g_iconst hK d4_show_104 zki1 ?_
    refine g_iload_n hK 2 rfl rfl d4_show_105 ?_
    refine g_ishl hK d4_show_106 (fun v5 hv5 => ?_)
    refine g_ior hK d4_show_107 (fun v6 hv6 => ?_)
    refine g_putI hK zfin_4 (fa_4_3 kc_200) q_233 hv6 rfl (tyX4_ok 3 (by decide)) tyX4 tyX4_ok nmX4 d4_show_108 ?_
    refine g_ltM (fun m5 => ?_)
    refine g_aload_n hK 0 rfl rfl d4_show_111 ?_
    refine g_getR hK zfin_4 (fa_4_6 kc_200) q_239 (r := 204) (by decide +kernel) d4_show_112 ?_
    refine g_iload_n hK 2 rfl rfl d4_show_115 ?_
    refine g_dup2 hK d4_show_116 rfl rfl ?_
    refine g_iald hK kc_204 d4_show_117 (fun _ hl4 => ?_)
    refine g_iconst hK d4_show_118 zki1 ?_
    refine g_iadd hK d4_show_119 (fun v7 hv7 => ?_)
    refine g_iast hK hv7 kc_204 d4_show_120 (fun _ => ?_)
    refine g_ltM (fun m6 => ?_)
    refine g_aload_n hK 0 rfl rfl d4_show_121 ?_
    refine g_getM hK zfin_4 (fa_4_0 kc_200) q_228 (w := 2) (by decide) d4_show_122 (fun hm4 => ?_)
    refine g_getR hK zfin_2 (fa_2_6 hm4) q_66 (pt_2_hasDefault hm4) d4_show_125 ?_
    refine g_iload_n hK 1 rfl rfl d4_show_128 ?_
    refine g_zald hK (pt_2_hasDefault_k hm4) d4_show_129 (fun _ hl5 => ?_)
    refine g_if_eq hK hl5 (tgt := 158) (by decide) d4_show_130 (fun _ => ?_) (fun _ => ?_)
    · refine g_iinc hK (lv2 := fun v8 => [(0, .ref (Z.2.2.1 + 200)), (1, .int (zi v8)), (2, .int (zi x2))]) 1 rfl [1, 0, 2] (fun _ => rfl) (by decide) d4_show_158 (fun v8 hv8 => ?_)
      refine g_goto hK (tgt := 35) (by decide) d4_show_161 ?_
      refine g_lv (lv2 := [(0, .ref (Z.2.2.1 + 200)), (1, .int (zi v8))]) [0, 1] rfl ?_
      exact hk35 v8 m6 hv8
    · refine g_aload_n hK 0 rfl rfl d4_show_133 ?_
      refine g_iload_n hK 2 rfl rfl d4_show_134 ?_
      refine g_callVco hK (mk := mkZ) (rm := rm4_isTyped) (cb := 0) (sb := 0) (As := [.int (zi x2)]) (b := 200) (n := 1) (c4_isTyped K.2.1 hK.2.2.2.2.2.2.2.2.1 Z x2 m6 hx2) rfl (ci := 4) rfl (by decide) kc_200 q_544 q_545 q_546 q_6 q_547 rfl (by decide +kernel) (by decide) (Nat.le_of_ble_eq_true rfl) (Nat.le_of_ble_eq_true rfl) (Nat.le_of_ble_eq_true rfl) rfl d4_show_135 (fun r2 hr2 hpr2 => ?_)
      refine g_if_ne hK (zb_r r2) (tgt := 158) (by decide) d4_show_138 (fun _ => ?_) (fun _ => ?_)
      · refine g_iinc hK (lv2 := fun v9 => [(0, .ref (Z.2.2.1 + 200)), (1, .int (zi v9)), (2, .int (zi x2))]) 1 rfl [1, 0, 2] (fun _ => rfl) (by decide) d4_show_158 (fun v9 hv9 => ?_)
        refine g_goto hK (tgt := 35) (by decide) d4_show_161 ?_
        refine g_lv (lv2 := [(0, .ref (Z.2.2.1 + 200)), (1, .int (zi v9))]) [0, 1] rfl ?_
        exact hk35 v9 m6 hv9
      · refine g_aload_n hK 0 rfl rfl d4_show_141 ?_
        refine g_getR hK zfin_4 (fa_4_5 kc_200) q_237 (r := 203) (by decide +kernel) d4_show_142 ?_
        refine g_iload_n hK 2 rfl rfl d4_show_145 ?_
        refine g_iald hK kc_203 d4_show_146 (fun _ hl6 => ?_)
        refine g_iconst hK d4_show_147 zkim1 ?_
        refine g_icmp_ne hK hl6 zcm1 (tgt := 158) (by decide) d4_show_148 (fun _ => ?_) (fun _ => ?_)
        · refine g_iinc hK (lv2 := fun v10 => [(0, .ref (Z.2.2.1 + 200)), (1, .int (zi v10)), (2, .int (zi x2))]) 1 rfl [1, 0, 2] (fun _ => rfl) (by decide) d4_show_158 (fun v10 hv10 => ?_)
          refine g_goto hK (tgt := 35) (by decide) d4_show_161 ?_
          refine g_lv (lv2 := [(0, .ref (Z.2.2.1 + 200)), (1, .int (zi v10))]) [0, 1] rfl ?_
          exact hk35 v10 m6 hv10
        · refine g_aload_n hK 0 rfl rfl d4_show_151 ?_
          refine g_getR hK zfin_4 (fa_4_5 kc_200) q_237 (r := 203) (by decide +kernel) d4_show_152 ?_
          refine g_iload_n hK 2 rfl rfl d4_show_155 ?_
          refine g_iload_n hK 1 rfl rfl d4_show_156 ?_
          refine g_iast hK hx1 kc_203 d4_show_157 (fun _ => ?_)
          refine g_ltM (fun m7 => ?_)
          refine g_iinc hK (lv2 := fun v11 => [(0, .ref (Z.2.2.1 + 200)), (1, .int (zi v11)), (2, .int (zi x2))]) 1 rfl [1, 0, 2] (fun _ => rfl) (by decide) d4_show_158 (fun v11 hv11 => ?_)
          refine g_goto hK (tgt := 35) (by decide) d4_show_161 ?_
          refine g_lv (lv2 := [(0, .ref (Z.2.2.1 + 200)), (1, .int (zi v11))]) [0, 1] rfl ?_
          exact hk35 v11 m7 hv11
set_option maxRecDepth 20000 in
theorem p4_show_35 {K : zK} {Z : zZ} (hcx : zOk K Z b4_show RX4 4 (none) 1 29 0 0 ∧ ∀ x ∈ K.2.2.2.2.2.2.2.2.2.exceptionTable.toList, False) (k35 : Int → zM → Option zM) (hk35 : ∀ (x1 : Int) (μ : zM) (hx1 : zr x1), zG K Z (zΩ Z) (zF K Z (zΩ Z) zeM) 0 0 35 [(0, .ref (Z.2.2.1 + 200)), (1, .int (zi x1))] [] μ (k35 x1 μ)) (x1 : Int) (μ : zM) (hx1 : zr x1) : zG K Z (zΩ Z) (zF K Z (zΩ Z) zeM) 0 0 35 [(0, .ref (Z.2.2.1 + 200)), (1, .int (zi x1))] [] μ (f4_show_35 k35 x1 μ) := by
  obtain ⟨hK, hex⟩ := id hcx
  unfold f4_show_35
  refine g_iload_n hK 1 rfl rfl d4_show_35 ?_
  refine g_aload_n hK 0 rfl rfl d4_show_36 ?_
  refine g_getM hK zfin_4 (fa_4_0 kc_200) q_228 (w := 2) (by decide) d4_show_37 (fun hm1 => ?_)
  refine g_getI hK zfin_2 (fa_2_2 hm1) q_52 d4_show_40 (fun hf1 => ?_)
  refine g_icmp_ge hK hx1 hf1 (tgt := 164) (by decide) d4_show_43 (fun _ => ?_) (fun _ => ?_)
  · exact g_vret hK rfl rfl d4_show_164
  · refine g_aload_n hK 0 rfl rfl d4_show_46 ?_
    refine g_getM hK zfin_4 (fa_4_0 kc_200) q_228 (w := 2) (by decide) d4_show_47 (fun hm2 => ?_)
    refine g_getR hK zfin_2 (fa_2_4 hm2) q_58 (pt_2_fields hm2) d4_show_50 ?_
    refine g_iload_n hK 1 rfl rfl d4_show_53 ?_
    refine g_iald hK (pt_2_fields_k hm2) d4_show_54 (fun _ hl1 => ?_)
    refine g_ltI hl1 (fun v2 hv2 => ?_)
    refine g_istore_n hK (lv2 := [(0, .ref (Z.2.2.1 + 200)), (1, .int (zi x1)), (2, .int (zi v2))]) [1, 2, 0] rfl rfl (by decide) d4_show_55 ?_
    refine g_aload_n hK 0 rfl rfl d4_show_56 ?_
    refine g_getM hK zfin_4 (fa_4_0 kc_200) q_228 (w := 2) (by decide) d4_show_57 (fun hm3 => ?_)
    refine g_getR hK zfin_2 (fa_2_7 hm3) q_70 (pt_2_parents hm3) d4_show_60 ?_
    refine g_iload_n hK 1 rfl rfl d4_show_63 ?_
    refine g_iald hK (pt_2_parents_k hm3) d4_show_64 (fun _ hl2 => ?_)
    refine g_ltI hl2 (fun v3 hv3 => ?_)
    refine g_istore_n hK (lv2 := [(0, .ref (Z.2.2.1 + 200)), (1, .int (zi x1)), (2, .int (zi v2)), (3, .int (zi v3))]) [1, 2, 3, 0] rfl rfl (by decide) d4_show_65 ?_
    refine g_aload_n hK 0 rfl rfl d4_show_66 ?_
    refine g_getR hK zfin_4 (fa_4_4 kc_200) q_235 (r := 202) (by decide +kernel) d4_show_67 ?_
    refine g_iload_n hK 1 rfl rfl d4_show_70 ?_
    refine g_iload_n hK 3 rfl rfl d4_show_71 ?_
    refine g_iconst hK d4_show_72 zkim1 ?_
    refine g_icmp_eq hK hv3 zcm1 (tgt := 84) (by decide) d4_show_73 (fun _ => ?_) (fun _ => ?_)
    · refine g_iconst hK d4_show_84 zki1 ?_
      refine g_goto hK (tgt := 89) (by decide) d4_show_85 ?_
      refine g_lv (lv2 := [(0, .ref (Z.2.2.1 + 200)), (1, .int (zi x1)), (2, .int (zi v2))]) [0, 1, 2] rfl ?_
      exact p4_show_89 hcx k35 hk35 x1 v2 1 x1 μ hx1 hv2 zc1 hx1
    · refine g_aload_n hK 0 rfl rfl d4_show_76 ?_
      refine g_iload_n hK 3 rfl rfl d4_show_77 ?_
      refine g_callVco hK (mk := mkZ) (rm := rm4_isDefaultShown) (cb := 0) (sb := 0) (As := [.int (zi v3)]) (b := 200) (n := 1) (c4_isDefaultShown K.2.1 hK.2.2.2.2.2.2.2.2.1 Z v3 μ hv3) rfl (ci := 4) rfl (by decide) kc_200 q_540 q_541 q_542 q_6 q_543 rfl (by decide +kernel) (by decide) (Nat.le_of_ble_eq_true rfl) (Nat.le_of_ble_eq_true rfl) (Nat.le_of_ble_eq_true rfl) rfl d4_show_78 (fun r1 hr1 hpr1 => ?_)
      refine g_if_eq hK (zb_r r1) (tgt := 88) (by decide) d4_show_81 (fun _ => ?_) (fun _ => ?_)
      · refine g_iconst hK d4_show_88 zki0 ?_
        refine g_lv (lv2 := [(0, .ref (Z.2.2.1 + 200)), (1, .int (zi x1)), (2, .int (zi v2))]) [0, 1, 2] rfl ?_
        exact p4_show_89 hcx k35 hk35 x1 v2 0 x1 μ hx1 hv2 zc0 hx1
      · refine g_iconst hK d4_show_84 zki1 ?_
        refine g_goto hK (tgt := 89) (by decide) d4_show_85 ?_
        refine g_lv (lv2 := [(0, .ref (Z.2.2.1 + 200)), (1, .int (zi x1)), (2, .int (zi v2))]) [0, 1, 2] rfl ?_
        exact p4_show_89 hcx k35 hk35 x1 v2 1 x1 μ hx1 hv2 zc1 hx1
set_option maxRecDepth 20000 in
theorem l4_show_35 {K : zK} {Z : zZ} (hcx : zOk K Z b4_show RX4 4 (none) 1 29 0 0 ∧ ∀ x ∈ K.2.2.2.2.2.2.2.2.2.exceptionTable.toList, False) : ∀ (i9 : Nat) (x1 : Int) (μ : zM) (hx1 : zr x1), zG K Z (zΩ Z) (zF K Z (zΩ Z) zeM) 0 0 35 [(0, .ref (Z.2.2.1 + 200)), (1, .int (zi x1))] [] μ (zfx (f4_show_35) (fun _ _ => none) i9 x1 μ) := by
  intro i9
  induction i9 with
  | zero => intro x1 μ hx1; exact g_none
  | succ i9 ih => intro x1 μ hx1; exact p4_show_35 hcx  (zfx (f4_show_35) (fun _ _ => none) i9) ih x1 μ hx1
set_option maxRecDepth 20000 in
theorem p4_show_7 {K : zK} {Z : zZ} (hcx : zOk K Z b4_show RX4 4 (none) 1 29 0 0 ∧ ∀ x ∈ K.2.2.2.2.2.2.2.2.2.exceptionTable.toList, False) (k7 : Int → zM → Option zM) (hk7 : ∀ (x1 : Int) (μ : zM) (hx1 : zr x1), zG K Z (zΩ Z) (zF K Z (zΩ Z) zeM) 0 0 7 [(0, .ref (Z.2.2.1 + 200)), (1, .int (zi x1))] [] μ (k7 x1 μ)) (x1 : Int) (μ : zM) (hx1 : zr x1) : zG K Z (zΩ Z) (zF K Z (zΩ Z) zeM) 0 0 7 [(0, .ref (Z.2.2.1 + 200)), (1, .int (zi x1))] [] μ (f4_show_7 k7 x1 μ) := by
  obtain ⟨hK, hex⟩ := id hcx
  unfold f4_show_7
  refine g_iload_n hK 1 rfl rfl d4_show_7 ?_
  refine g_bipush hK d4_show_8 zkb10 ?_
  refine g_icmp_ge hK hx1 zc10 (tgt := 33) (by decide) d4_show_10 (fun _ => ?_) (fun _ => ?_)
  · refine g_iconst hK d4_show_33 zki0 ?_
    refine g_istore_n hK (lv2 := [(0, .ref (Z.2.2.1 + 200)), (1, .int (zi 0))]) [1, 0] rfl rfl (by decide) d4_show_34 ?_
    exact l4_show_35 hcx  zFu 0 μ zc0
  · refine g_aload_n hK 0 rfl rfl d4_show_13 ?_
    refine g_getR hK zfin_4 (fa_4_5 kc_200) q_237 (r := 203) (by decide +kernel) d4_show_14 ?_
    refine g_iload_n hK 1 rfl rfl d4_show_17 ?_
    refine g_iconst hK d4_show_18 zkim1 ?_
    refine g_iast hK zcm1 kc_203 d4_show_19 (fun _ => ?_)
    refine g_ltM (fun m2 => ?_)
    refine g_aload_n hK 0 rfl rfl d4_show_20 ?_
    refine g_getR hK zfin_4 (fa_4_6 kc_200) q_239 (r := 204) (by decide +kernel) d4_show_21 ?_
    refine g_iload_n hK 1 rfl rfl d4_show_24 ?_
    refine g_iconst hK d4_show_25 zki0 ?_
    refine g_iast hK zc0 kc_204 d4_show_26 (fun _ => ?_)
    refine g_ltM (fun m3 => ?_)
    refine g_iinc hK (lv2 := fun v1 => [(0, .ref (Z.2.2.1 + 200)), (1, .int (zi v1))]) 1 rfl [1, 0] (fun _ => rfl) (by decide) d4_show_27 (fun v1 hv1 => ?_)
    refine g_goto hK (tgt := 7) (by decide) d4_show_30 ?_
    exact hk7 v1 m3 hv1
set_option maxRecDepth 20000 in
theorem l4_show_7 {K : zK} {Z : zZ} (hcx : zOk K Z b4_show RX4 4 (none) 1 29 0 0 ∧ ∀ x ∈ K.2.2.2.2.2.2.2.2.2.exceptionTable.toList, False) : ∀ (i9 : Nat) (x1 : Int) (μ : zM) (hx1 : zr x1), zG K Z (zΩ Z) (zF K Z (zΩ Z) zeM) 0 0 7 [(0, .ref (Z.2.2.1 + 200)), (1, .int (zi x1))] [] μ (zfx (f4_show_7) (fun _ _ => none) i9 x1 μ) := by
  intro i9
  induction i9 with
  | zero => intro x1 μ hx1; exact g_none
  | succ i9 ih => intro x1 μ hx1; exact p4_show_7 hcx  (zfx (f4_show_7) (fun _ _ => none) i9) ih x1 μ hx1
set_option maxRecDepth 20000 in
theorem c4_show (l : Launch) (hst : l.stackTraces = false) (Z : zZ) (μ : zM) : ∀ x, f4_show μ = some x → zCt l Z (zΩ Z) y4_show (zws (.code y4_show b4_show 4 (none))) rm4_show [.ref (Z.2.2.1 + 200)] μ (zeM x) := by
  intro x h
  refine zCt.of (enc := zeM) h (by decide) hst (Nat.le_of_ble_eq_true rfl) (fun K hK0 hex hl _ => ?_)
  subst hl
  have hcx : zOk K Z b4_show RX4 4 (none) 1 29 0 0 ∧ ∀ x ∈ K.2.2.2.2.2.2.2.2.2.exceptionTable.toList, False := ⟨hK0, hex⟩
  have hK := hcx.1
  show zG K Z (zΩ Z) (zF K Z (zΩ Z) zeM) 0 0 0 [(0, .ref (Z.2.2.1 + 200))] [] μ (f4_show μ)
  unfold f4_show
  refine g_aload_n hK 0 rfl rfl d4_show_0 ?_
  refine g_iconst hK d4_show_1 zki0 ?_
  refine g_putI hK zfin_4 (fa_4_3 kc_200) q_233 zc0 rfl (tyX4_ok 3 (by decide)) tyX4 tyX4_ok nmX4 d4_show_2 ?_
  refine g_ltM (fun m1 => ?_)
  refine g_iconst hK d4_show_5 zki0 ?_
  refine g_istore_n hK (lv2 := [(0, .ref (Z.2.2.1 + 200)), (1, .int (zi 0))]) [1, 0] rfl rfl (by decide) d4_show_6 ?_
  exact l4_show_7 hcx  zFu 0 m1 zc0
set_option maxRecDepth 20000 in
theorem cJ_bitCount (l : Launch) (hst : l.stackTraces = false) (Z : zZ) (a1 : Int) (μ : zM) (ha1 : zr a1) : ∀ x, fJ_bitCount a1 = some x → zCt l Z (zΩ Z) yJ_bitCount (zws (.code yJ_bitCount bJ_bitCount 1 (some .int))) rmJ_bitCount [.int (zi a1)] μ (zeP mkI μ x) := by
  intro x h
  refine zCt.of (enc := (zeP mkI μ)) h (by decide) hst (Nat.le_of_ble_eq_true rfl) (fun K hK0 hex hl _ => ?_)
  subst hl
  have hcx : zOk K Z bJ_bitCount "java/lang/Integer" 1 (some .int) 0 8 0 0 ∧ ∀ x ∈ K.2.2.2.2.2.2.2.2.2.exceptionTable.toList, False := ⟨hK0, hex⟩
  have hK := hcx.1
  show zG K Z (zΩ Z) (zF K Z (zΩ Z) (zeP mkI μ)) 0 0 0 [(0, .int (zi a1))] [] μ (fJ_bitCount a1)
  unfold fJ_bitCount
  refine g_iload_n hK 0 rfl rfl dJ_bitCount_0 ?_
  refine g_iload_n hK 0 rfl rfl dJ_bitCount_1 ?_
  refine g_iconst hK dJ_bitCount_2 zki1 ?_
  refine g_iushr hK dJ_bitCount_3 (fun v1 hv1 => ?_)
  refine g_ldcw hK (v := 1431655765) q_551 dJ_bitCount_4 ?_
  refine g_iand hK dJ_bitCount_7 (fun v2 hv2 => ?_)
  refine g_isub hK dJ_bitCount_8 (fun v3 hv3 => ?_)
  refine g_istore_n hK (lv2 := [(0, .int (zi v3))]) [0] rfl rfl (by decide) dJ_bitCount_9 ?_
  refine g_iload_n hK 0 rfl rfl dJ_bitCount_10 ?_
  refine g_ldcw hK (v := 858993459) q_552 dJ_bitCount_11 ?_
  refine g_iand hK dJ_bitCount_14 (fun v4 hv4 => ?_)
  refine g_iload_n hK 0 rfl rfl dJ_bitCount_15 ?_
  refine g_iconst hK dJ_bitCount_16 zki2 ?_
  refine g_iushr hK dJ_bitCount_17 (fun v5 hv5 => ?_)
  refine g_ldcw hK (v := 858993459) q_552 dJ_bitCount_18 ?_
  refine g_iand hK dJ_bitCount_21 (fun v6 hv6 => ?_)
  refine g_iadd hK dJ_bitCount_22 (fun v7 hv7 => ?_)
  refine g_istore_n hK (lv2 := [(0, .int (zi v7))]) [0] rfl rfl (by decide) dJ_bitCount_23 ?_
  refine g_iload_n hK 0 rfl rfl dJ_bitCount_24 ?_
  refine g_iload_n hK 0 rfl rfl dJ_bitCount_25 ?_
  refine g_iconst hK dJ_bitCount_26 zki4 ?_
  refine g_iushr hK dJ_bitCount_27 (fun v8 hv8 => ?_)
  refine g_iadd hK dJ_bitCount_28 (fun v9 hv9 => ?_)
  refine g_ldcw hK (v := 252645135) q_553 dJ_bitCount_29 ?_
  refine g_iand hK dJ_bitCount_32 (fun v10 hv10 => ?_)
  refine g_istore_n hK (lv2 := [(0, .int (zi v10))]) [0] rfl rfl (by decide) dJ_bitCount_33 ?_
  refine g_iload_n hK 0 rfl rfl dJ_bitCount_34 ?_
  refine g_iload_n hK 0 rfl rfl dJ_bitCount_35 ?_
  refine g_bipush hK dJ_bitCount_36 zkb8 ?_
  refine g_iushr hK dJ_bitCount_38 (fun v11 hv11 => ?_)
  refine g_iadd hK dJ_bitCount_39 (fun v12 hv12 => ?_)
  refine g_istore_n hK (lv2 := [(0, .int (zi v12))]) [0] rfl rfl (by decide) dJ_bitCount_40 ?_
  refine g_iload_n hK 0 rfl rfl dJ_bitCount_41 ?_
  refine g_iload_n hK 0 rfl rfl dJ_bitCount_42 ?_
  refine g_bipush hK dJ_bitCount_43 zkb16 ?_
  refine g_iushr hK dJ_bitCount_45 (fun v13 hv13 => ?_)
  refine g_iadd hK dJ_bitCount_46 (fun v14 hv14 => ?_)
  refine g_istore_n hK (lv2 := [(0, .int (zi v14))]) [0] rfl rfl (by decide) dJ_bitCount_47 ?_
  refine g_iload_n hK 0 rfl rfl dJ_bitCount_48 ?_
  refine g_bipush hK dJ_bitCount_49 zkb63 ?_
  refine g_iand hK dJ_bitCount_51 (fun v15 hv15 => ?_)
  exact g_iret hK hv15 rfl rfl dJ_bitCount_52
set_option maxRecDepth 20000 in
theorem p4_countDigits_11 {K : zK} {Z : zZ} (hcx : zOk K Z b4_countDigits RX4 6 (some .int) 0 8 0 0 ∧ ∀ x ∈ K.2.2.2.2.2.2.2.2.2.exceptionTable.toList, False) (a1 : Int) (μ : zM) (ha1 : zr64 a1) (k11 : Int → Int → Int → Option Int) (hk11 : ∀ (x2 : Int) (x3 : Int) (x5 : Int) (hx2 : zr x2) (hx3 : zr64 x3) (hx5 : zr x5), zG K Z (zΩ Z) (zF K Z (zΩ Z) (zeP mkI μ)) 0 0 11 [(2, .int (zi x2)), (3, .long (zl x3)), (5, .int (zi x5))] [] μ (k11 x2 x3 x5)) (x2 : Int) (x3 : Int) (x5 : Int) (hx2 : zr x2) (hx3 : zr64 x3) (hx5 : zr x5) : zG K Z (zΩ Z) (zF K Z (zΩ Z) (zeP mkI μ)) 0 0 11 [(2, .int (zi x2)), (3, .long (zl x3)), (5, .int (zi x5))] [] μ (f4_countDigits_11 a1 k11 x2 x3 x5) := by
  obtain ⟨hK, hex⟩ := id hcx
  unfold f4_countDigits_11
  refine g_iload hK 2 rfl d4_countDigits_11 ?_
  refine g_bipush hK d4_countDigits_13 zkb20 ?_
  refine g_icmp_ge hK hx5 zc20 (tgt := 39) (by decide) d4_countDigits_15 (fun _ => ?_) (fun _ => ?_)
  · refine g_iload_n hK 0 rfl rfl d4_countDigits_39 ?_
    exact g_iret hK hx2 rfl rfl d4_countDigits_40
  · refine g_lload_n hK 1 rfl rfl d4_countDigits_18 ?_
    refine g_lconst hK (v := 0) d4_countDigits_19 rfl ?_
    refine g_lcmp hK d4_countDigits_20 hx3 zcL0 (fun v1 hv1 => ?_)
    refine g_if_le hK hv1 (tgt := 39) (by decide) d4_countDigits_21 (fun _ => ?_) (fun _ => ?_)
    · refine g_iload_n hK 0 rfl rfl d4_countDigits_39 ?_
      exact g_iret hK hx2 rfl rfl d4_countDigits_40
    · refine g_lload_n hK 1 rfl rfl d4_countDigits_24 ?_
      refine g_ldc2 hK (v := 10) q_568 d4_countDigits_25 ?_
      refine g_ldiv hK d4_countDigits_28 zcL10 (by decide) (fun w2 hw2 => ?_)
      refine g_lstore_n hK (lv2 := [(2, .int (zi x2)), (3, .long (zl w2)), (5, .int (zi x5))]) [1, 0, 2] rfl rfl (by decide) d4_countDigits_29 ?_
      refine g_iinc hK (lv2 := fun v2 => [(2, .int (zi v2)), (3, .long (zl w2)), (5, .int (zi x5))]) 0 rfl [0, 1, 2] (fun _ => rfl) (by decide) d4_countDigits_30 (fun v2 hv2 => ?_)
      refine g_iinc hK (lv2 := fun v3 => [(2, .int (zi v2)), (3, .long (zl w2)), (5, .int (zi v3))]) 2 rfl [1, 2, 0] (fun _ => rfl) (by decide) d4_countDigits_33 (fun v3 hv3 => ?_)
      refine g_goto hK (tgt := 11) (by decide) d4_countDigits_36 ?_
      exact hk11 v2 w2 v3  hv2 hw2 hv3
set_option maxRecDepth 20000 in
theorem l4_countDigits_11 {K : zK} {Z : zZ} (hcx : zOk K Z b4_countDigits RX4 6 (some .int) 0 8 0 0 ∧ ∀ x ∈ K.2.2.2.2.2.2.2.2.2.exceptionTable.toList, False) (a1 : Int) (μ : zM) (ha1 : zr64 a1) : ∀ (i9 : Nat) (x2 : Int) (x3 : Int) (x5 : Int) (hx2 : zr x2) (hx3 : zr64 x3) (hx5 : zr x5), zG K Z (zΩ Z) (zF K Z (zΩ Z) (zeP mkI μ)) 0 0 11 [(2, .int (zi x2)), (3, .long (zl x3)), (5, .int (zi x5))] [] μ (zfx (f4_countDigits_11 a1) (fun _ _ _ => none) i9 x2 x3 x5) := by
  intro i9
  induction i9 with
  | zero => intro x2 x3 x5 hx2 hx3 hx5; exact g_none
  | succ i9 ih => intro x2 x3 x5 hx2 hx3 hx5; exact p4_countDigits_11 hcx a1 μ ha1  (zfx (f4_countDigits_11 a1) (fun _ _ _ => none) i9) ih x2 x3 x5 hx2 hx3 hx5
set_option maxRecDepth 20000 in
theorem c4_countDigits (l : Launch) (hst : l.stackTraces = false) (Z : zZ) (a1 : Int) (μ : zM) (ha1 : zr64 a1) : ∀ x, f4_countDigits a1 = some x → zCt l Z (zΩ Z) y4_countDigits (zws (.code y4_countDigits b4_countDigits 6 (some .int))) rm4_countDigits [.long (zl a1)] μ (zeP mkI μ x) := by
  intro x h
  refine zCt.of (enc := (zeP mkI μ)) h (by decide) hst (Nat.le_of_ble_eq_true rfl) (fun K hK0 hex hl _ => ?_)
  subst hl
  have hcx : zOk K Z b4_countDigits RX4 6 (some .int) 0 8 0 0 ∧ ∀ x ∈ K.2.2.2.2.2.2.2.2.2.exceptionTable.toList, False := ⟨hK0, hex⟩
  have hK := hcx.1
  show zG K Z (zΩ Z) (zF K Z (zΩ Z) (zeP mkI μ)) 0 0 0 [(0, .long (zl a1))] [] μ (f4_countDigits a1)
  unfold f4_countDigits
  refine g_iconst hK d4_countDigits_0 zki1 ?_
  refine g_istore_n hK (lv2 := [(0, .long (zl a1)), (2, .int (zi 1))]) [1, 0] rfl rfl (by decide) d4_countDigits_1 ?_
  refine g_lload_n hK 0 rfl rfl d4_countDigits_2 ?_
  refine g_ldc2 hK (v := 10) q_568 d4_countDigits_3 ?_
  refine g_ldiv hK d4_countDigits_6 zcL10 (by decide) (fun w1 hw1 => ?_)
  refine g_lstore_n hK (lv2 := [(0, .long (zl a1)), (2, .int (zi 1)), (3, .long (zl w1))]) [1, 2, 0] rfl rfl (by decide) d4_countDigits_7 ?_
  refine g_iconst hK d4_countDigits_8 zki0 ?_
  refine g_istore hK (lv2 := [(0, .long (zl a1)), (2, .int (zi 1)), (3, .long (zl w1)), (5, .int (zi 0))]) [1, 2, 3, 0] rfl (by decide) d4_countDigits_9 ?_
  refine g_lv (lv2 := [(2, .int (zi 1)), (3, .long (zl w1)), (5, .int (zi 0))]) [1, 2, 3] rfl ?_
  exact l4_countDigits_11 hcx a1 μ ha1  zFu 1 w1 0  zc1 hw1 zc0
set_option maxRecDepth 20000 in
theorem c4_changedLength (l : Launch) (hst : l.stackTraces = false) (Z : zZ) (a1 : Int) (μ : zM) (ha1 : zr a1) : ∀ x, f4_changedLength a1 μ = some x → zCt l Z (zΩ Z) y4_changedLength (zws (.code y4_changedLength b4_changedLength 4 (some .long))) rm4_changedLength [.ref (Z.2.2.1 + 200), .int (zi a1)] μ (zeP mkL μ x) := by
  intro x h
  refine zCt.of (enc := (zeP mkL μ)) h (by decide) hst (Nat.le_of_ble_eq_true rfl) (fun K hK0 hex hl _ => ?_)
  subst hl
  have hcx : zOk K Z b4_changedLength RX4 4 (some .long) 1 33 0 0 ∧ ∀ x ∈ K.2.2.2.2.2.2.2.2.2.exceptionTable.toList, False := ⟨hK0, hex⟩
  have hK := hcx.1
  show zG K Z (zΩ Z) (zF K Z (zΩ Z) (zeP mkL μ)) 0 0 0 [(0, .ref (Z.2.2.1 + 200)), (1, .int (zi a1))] [] μ (f4_changedLength a1 μ)
  unfold f4_changedLength
  refine g_aload_n hK 0 rfl rfl d4_changedLength_0 ?_
  refine g_getR hK zfin_4 (fa_4_7 kc_200) q_241 (r := 205) (by decide +kernel) d4_changedLength_1 ?_
  refine g_aload_n hK 0 rfl rfl d4_changedLength_4 ?_
  refine g_getM hK zfin_4 (fa_4_0 kc_200) q_228 (w := 2) (by decide) d4_changedLength_5 (fun hm1 => ?_)
  refine g_getR hK zfin_2 (fa_2_4 hm1) q_58 (pt_2_fields hm1) d4_changedLength_8 ?_
  refine g_iload_n hK 1 rfl rfl d4_changedLength_11 ?_
  refine g_iald hK (pt_2_fields_k hm1) d4_changedLength_12 (fun _ hl1 => ?_)
  refine g_lald hK kc_205 d4_changedLength_13 (fun _ hl2 => ?_)
  refine g_ltL hl2 (fun w1 hw1 => ?_)
  refine g_lstore_n hK (lv2 := [(0, .ref (Z.2.2.1 + 200)), (1, .int (zi a1)), (2, .long (zl w1))]) [1, 2, 0] rfl rfl (by decide) d4_changedLength_14 ?_
  refine g_aload_n hK 0 rfl rfl d4_changedLength_15 ?_
  refine g_getM hK zfin_4 (fa_4_0 kc_200) q_228 (w := 2) (by decide) d4_changedLength_16 (fun hm2 => ?_)
  refine g_getR hK zfin_2 (fa_2_5 hm2) q_62 (pt_2_changes hm2) d4_changedLength_19 ?_
  refine g_iload_n hK 1 rfl rfl d4_changedLength_22 ?_
  refine g_iald hK (pt_2_changes_k hm2) d4_changedLength_23 (fun _ hl3 => ?_)
  refine g_ltI hl3 (fun v1 hv1 => ?_)
  refine g_case (fun hs4 => ?_) (fun hs4 => ?_)
  · refine g_lookup hK (tgt := 52) hv1 (by decide) (show _ = 28 from by rw [hs4]; rfl) (by decide) d4_changedLength_24 ?_
    refine g_lload_n hK 2 rfl rfl d4_changedLength_52 ?_
    refine g_lconst hK (v := 1) d4_changedLength_53 rfl ?_
    refine g_lmin hK hw1 zcL1 q_562 q_563 q_13 q_564 (by decide) (Nat.le_of_ble_eq_true rfl) d4_changedLength_54 (fun w2 hw2 => ?_)
    exact g_lret hK hw2 rfl rfl d4_changedLength_57
  refine g_case (fun hs5 => ?_) (fun hs5 => ?_)
  · refine g_lookup hK (tgt := 58) hv1 (by decide) (show _ = 34 from by rw [hs5]; rfl) (by decide) d4_changedLength_24 ?_
    refine g_lload_n hK 2 rfl rfl d4_changedLength_58 ?_
    refine g_callSco hK (mk := mkI) (rm := rm4_countDigits) (cb := 0) (sb := 0) (As := [.long (zl w1)]) (n := 1) (c4_countDigits K.2.1 hK.2.2.2.2.2.2.2.2.1 Z w1 μ hw1) q_565 q_566 q_6 q_567 rfl (by decide +kernel) (by decide) (Nat.le_of_ble_eq_true rfl) (Nat.le_of_ble_eq_true rfl) (Nat.le_of_ble_eq_true rfl) rfl d4_changedLength_59 (fun r1 hr1 hpr1 => ?_)
    refine g_i2l hK d4_changedLength_62 hpr1 ?_
    exact g_lret hK (zr_64 hpr1) rfl rfl d4_changedLength_63
  refine g_lookup hK (tgt := 64) hv1 (by decide) (show _ = 40 from by simp [Op.lookupswitch.offset, hs4, Ne.symm hs4, hs5, Ne.symm hs5]) (by decide) d4_changedLength_24 ?_
  refine g_lload_n hK 2 rfl rfl d4_changedLength_64 ?_
  exact g_lret hK hw1 rfl rfl d4_changedLength_65
set_option maxRecDepth 20000 in
theorem p4_measurePart_16 {K : zK} {Z : zZ} (hcx : zOk K Z b4_measurePart RX4 5 (some .long) 2 56 0 0 ∧ ∀ x ∈ K.2.2.2.2.2.2.2.2.2.exceptionTable.toList, False) (a1 : Int) (μ : zM) (ha1 : zr a1) (k16 : Int → Int → Option Int) (hk16 : ∀ (x2 : Int) (x4 : Int) (hx2 : zr64 x2) (hx4 : zr x4), zG K Z (zΩ Z) (zF K Z (zΩ Z) (zeP mkL μ)) 0 0 16 [(0, .ref (Z.2.2.1 + 200)), (1, .int (zi a1)), (2, .long (zl x2)), (4, .int (zi x4))] [] μ (k16 x2 x4)) (x2 : Int) (x4 : Int) (hx2 : zr64 x2) (hx4 : zr x4) : zG K Z (zΩ Z) (zF K Z (zΩ Z) (zeP mkL μ)) 0 0 16 [(0, .ref (Z.2.2.1 + 200)), (1, .int (zi a1)), (2, .long (zl x2)), (4, .int (zi x4))] [] μ (f4_measurePart_16 a1 μ k16 x2 x4) := by
  obtain ⟨hK, hex⟩ := id hcx
  unfold f4_measurePart_16
  refine g_iload hK 3 rfl d4_measurePart_16 ?_
  refine g_aload_n hK 0 rfl rfl d4_measurePart_18 ?_
  refine g_getM hK zfin_4 (fa_4_0 kc_200) q_228 (w := 2) (by decide) d4_measurePart_19 (fun hm2 => ?_)
  refine g_getI hK zfin_2 (fa_2_2 hm2) q_52 d4_measurePart_22 (fun hf1 => ?_)
  refine g_icmp_ge hK hx4 hf1 (tgt := 57) (by decide) d4_measurePart_25 (fun _ => ?_) (fun _ => ?_)
  · refine g_lload_n hK 2 rfl rfl d4_measurePart_57 ?_
    exact g_lret hK hx2 rfl rfl d4_measurePart_58
  · refine g_aload_n hK 0 rfl rfl d4_measurePart_28 ?_
    refine g_getM hK zfin_4 (fa_4_0 kc_200) q_228 (w := 2) (by decide) d4_measurePart_29 (fun hm3 => ?_)
    refine g_getR hK zfin_2 (fa_2_7 hm3) q_70 (pt_2_parents hm3) d4_measurePart_32 ?_
    refine g_iload hK 3 rfl d4_measurePart_35 ?_
    refine g_iald hK (pt_2_parents_k hm3) d4_measurePart_37 (fun _ hl2 => ?_)
    refine g_iload_n hK 1 rfl rfl d4_measurePart_38 ?_
    refine g_icmp_ne hK hl2 ha1 (tgt := 51) (by decide) d4_measurePart_39 (fun _ => ?_) (fun _ => ?_)
    · refine g_iinc hK (lv2 := fun v2 => [(0, .ref (Z.2.2.1 + 200)), (1, .int (zi a1)), (2, .long (zl x2)), (4, .int (zi v2))]) 3 rfl [1, 2, 3, 0] (fun _ => rfl) (by decide) d4_measurePart_51 (fun v2 hv2 => ?_)
      refine g_goto hK (tgt := 16) (by decide) d4_measurePart_54 ?_
      exact hk16 x2 v2  hx2 hv2
    · refine g_lload_n hK 2 rfl rfl d4_measurePart_42 ?_
      refine g_aload_n hK 0 rfl rfl d4_measurePart_43 ?_
      refine g_iload hK 3 rfl d4_measurePart_44 ?_
      refine g_callVco hK (mk := mkL) (rm := rm4_changedLength) (cb := 0) (sb := 0) (As := [.int (zi x4)]) (b := 200) (n := 1) (c4_changedLength K.2.1 hK.2.2.2.2.2.2.2.2.1 Z x4 μ hx4) rfl (ci := 4) rfl (by decide) kc_200 q_558 q_559 q_560 q_6 q_561 rfl (by decide +kernel) (by decide) (Nat.le_of_ble_eq_true rfl) (Nat.le_of_ble_eq_true rfl) (Nat.le_of_ble_eq_true rfl) rfl d4_measurePart_46 (fun r1 hr1 hpr1 => ?_)
      refine g_ladd hK d4_measurePart_49 (fun w2 hw2 => ?_)
      refine g_lstore_n hK (lv2 := [(0, .ref (Z.2.2.1 + 200)), (1, .int (zi a1)), (2, .long (zl w2)), (4, .int (zi x4))]) [1, 2, 0, 3] rfl rfl (by decide) d4_measurePart_50 ?_
      refine g_iinc hK (lv2 := fun v3 => [(0, .ref (Z.2.2.1 + 200)), (1, .int (zi a1)), (2, .long (zl w2)), (4, .int (zi v3))]) 3 rfl [1, 2, 3, 0] (fun _ => rfl) (by decide) d4_measurePart_51 (fun v3 hv3 => ?_)
      refine g_goto hK (tgt := 16) (by decide) d4_measurePart_54 ?_
      exact hk16 w2 v3  hw2 hv3
set_option maxRecDepth 20000 in
theorem l4_measurePart_16 {K : zK} {Z : zZ} (hcx : zOk K Z b4_measurePart RX4 5 (some .long) 2 56 0 0 ∧ ∀ x ∈ K.2.2.2.2.2.2.2.2.2.exceptionTable.toList, False) (a1 : Int) (μ : zM) (ha1 : zr a1) : ∀ (i9 : Nat) (x2 : Int) (x4 : Int) (hx2 : zr64 x2) (hx4 : zr x4), zG K Z (zΩ Z) (zF K Z (zΩ Z) (zeP mkL μ)) 0 0 16 [(0, .ref (Z.2.2.1 + 200)), (1, .int (zi a1)), (2, .long (zl x2)), (4, .int (zi x4))] [] μ (zfx (f4_measurePart_16 a1 μ) (fun _ _ => none) i9 x2 x4) := by
  intro i9
  induction i9 with
  | zero => intro x2 x4 hx2 hx4; exact g_none
  | succ i9 ih => intro x2 x4 hx2 hx4; exact p4_measurePart_16 hcx a1 μ ha1  (zfx (f4_measurePart_16 a1 μ) (fun _ _ => none) i9) ih x2 x4 hx2 hx4
set_option maxRecDepth 20000 in
theorem c4_measurePart (l : Launch) (hst : l.stackTraces = false) (Z : zZ) (a1 : Int) (μ : zM) (ha1 : zr a1) : ∀ x, f4_measurePart a1 μ = some x → zCt l Z (zΩ Z) y4_measurePart (zws (.code y4_measurePart b4_measurePart 5 (some .long))) rm4_measurePart [.ref (Z.2.2.1 + 200), .int (zi a1)] μ (zeP mkL μ x) := by
  intro x h
  refine zCt.of (enc := (zeP mkL μ)) h (by decide) hst (Nat.le_of_ble_eq_true rfl) (fun K hK0 hex hl _ => ?_)
  subst hl
  have hcx : zOk K Z b4_measurePart RX4 5 (some .long) 2 56 0 0 ∧ ∀ x ∈ K.2.2.2.2.2.2.2.2.2.exceptionTable.toList, False := ⟨hK0, hex⟩
  have hK := hcx.1
  show zG K Z (zΩ Z) (zF K Z (zΩ Z) (zeP mkL μ)) 0 0 0 [(0, .ref (Z.2.2.1 + 200)), (1, .int (zi a1))] [] μ (f4_measurePart a1 μ)
  unfold f4_measurePart
  refine g_aload_n hK 0 rfl rfl d4_measurePart_0 ?_
  refine g_getM hK zfin_4 (fa_4_0 kc_200) q_228 (w := 2) (by decide) d4_measurePart_1 (fun hm1 => ?_)
  refine g_getR hK zfin_2 (fa_2_10 hm1) q_79 (pt_2_literalsOfParts hm1) d4_measurePart_4 ?_
  refine g_iload_n hK 1 rfl rfl d4_measurePart_7 ?_
  refine g_iconst hK d4_measurePart_8 zki1 ?_
  refine g_iadd hK d4_measurePart_9 (fun v1 hv1 => ?_)
  refine g_iald hK (pt_2_literalsOfParts_k hm1) d4_measurePart_10 (fun _ hl1 => ?_)
  refine g_i2l hK d4_measurePart_11 hl1 ?_
  refine g_ltL (zr_64 hl1) (fun w1 hw1 => ?_)
  refine g_lstore_n hK (lv2 := [(0, .ref (Z.2.2.1 + 200)), (1, .int (zi a1)), (2, .long (zl w1))]) [1, 2, 0] rfl rfl (by decide) d4_measurePart_12 ?_
  refine g_iconst hK d4_measurePart_13 zki0 ?_
  refine g_istore hK (lv2 := [(0, .ref (Z.2.2.1 + 200)), (1, .int (zi a1)), (2, .long (zl w1)), (4, .int (zi 0))]) [1, 2, 3, 0] rfl (by decide) d4_measurePart_14 ?_
  exact l4_measurePart_16 hcx a1 μ ha1  zFu w1 0  hw1 zc0
set_option maxRecDepth 20000 in
theorem p4_measure_84 {K : zK} {Z : zZ} (hcx : zOk K Z b4_measure RX4 5 (none) 3 80 0 0 ∧ ∀ x ∈ K.2.2.2.2.2.2.2.2.2.exceptionTable.toList, False) (k6 : Int → zM → Option zM) (hk6 : ∀ (x1 : Int) (μ : zM) (hx1 : zr x1), zG K Z (zΩ Z) (zF K Z (zΩ Z) zeM) 0 0 6 [(0, .ref (Z.2.2.1 + 200)), (1, .int (zi x1))] [] μ (k6 x1 μ)) (k14 : Int → Int → zM → Option zM) (hk14 : ∀ (x1 : Int) (x2 : Int) (μ : zM) (hx1 : zr x1) (hx2 : zr x2), zG K Z (zΩ Z) (zF K Z (zΩ Z) zeM) 0 0 14 [(0, .ref (Z.2.2.1 + 200)), (1, .int (zi x1)), (2, .int (zi x2))] [] μ (k14 x1 x2 μ)) (x1 : Int) (x2 : Int) (s0 : Int) (s1 : Int) (μ : zM) (hx1 : zr x1) (hx2 : zr x2) (hs0 : zr64 s0) (hs1 : zr s1) : zG K Z (zΩ Z) (zF K Z (zΩ Z) zeM) 0 0 84 [(0, .ref (Z.2.2.1 + 200)), (1, .int (zi x1)), (2, .int (zi x2))] [.long (zl s0), .int (zi s1), .ref (Z.2.2.1 + 205)] μ (f4_measure_84 k6 k14 x1 x2 s0 s1 μ) := by
  obtain ⟨hK, hex⟩ := id hcx
  unfold f4_measure_84
  refine g_last hK hs0 kc_205 d4_measure_84 (fun _ => ?_)
  refine g_ltM (fun m3 => ?_)
  refine g_iinc hK (lv2 := fun v4 => [(0, .ref (Z.2.2.1 + 200)), (1, .int (zi x1)), (2, .int (zi v4))]) 2 rfl [1, 2, 0] (fun _ => rfl) (by decide) d4_measure_85 (fun v4 hv4 => ?_)
  refine g_goto hK (tgt := 14) (by decide) d4_measure_88 ?_
  exact hk14 x1 v4 m3 hx1 hv4
set_option maxRecDepth 20000 in
theorem p4_measure_61 {K : zK} {Z : zZ} (hcx : zOk K Z b4_measure RX4 5 (none) 3 80 0 0 ∧ ∀ x ∈ K.2.2.2.2.2.2.2.2.2.exceptionTable.toList, False) (k6 : Int → zM → Option zM) (hk6 : ∀ (x1 : Int) (μ : zM) (hx1 : zr x1), zG K Z (zΩ Z) (zF K Z (zΩ Z) zeM) 0 0 6 [(0, .ref (Z.2.2.1 + 200)), (1, .int (zi x1))] [] μ (k6 x1 μ)) (k14 : Int → Int → zM → Option zM) (hk14 : ∀ (x1 : Int) (x2 : Int) (μ : zM) (hx1 : zr x1) (hx2 : zr x2), zG K Z (zΩ Z) (zF K Z (zΩ Z) zeM) 0 0 14 [(0, .ref (Z.2.2.1 + 200)), (1, .int (zi x1)), (2, .int (zi x2))] [] μ (k14 x1 x2 μ)) (x1 : Int) (x2 : Int) (x3 : Int) (s0 : Int) (μ : zM) (hx1 : zr x1) (hx2 : zr x2) (hx3 : zr x3) (hs0 : zr s0) : zG K Z (zΩ Z) (zF K Z (zΩ Z) zeM) 0 0 61 [(0, .ref (Z.2.2.1 + 200)), (1, .int (zi x1)), (2, .int (zi x2)), (3, .int (zi x3))] [.int (zi s0)] μ (f4_measure_61 k6 k14 x1 x2 x3 s0 μ) := by
  obtain ⟨hK, hex⟩ := id hcx
  unfold f4_measure_61
  refine g_istore hK (lv2 := [(0, .ref (Z.2.2.1 + 200)), (1, .int (zi x1)), (2, .int (zi x2)), (3, .int (zi x3)), (4, .int (zi s0))]) [1, 2, 3, 4, 0] rfl (by decide) d4_measure_61 ?_
  refine g_aload_n hK 0 rfl rfl d4_measure_63 ?_
  refine g_getR hK zfin_4 (fa_4_7 kc_200) q_241 (r := 205) (by decide +kernel) d4_measure_64 ?_
  refine g_iload_n hK 2 rfl rfl d4_measure_67 ?_
  refine g_iload_n hK 3 rfl rfl d4_measure_68 ?_
  refine g_iconst hK d4_measure_69 zkim1 ?_
  refine g_icmp_ne hK hx3 zcm1 (tgt := 79) (by decide) d4_measure_70 (fun _ => ?_) (fun _ => ?_)
  · refine g_aload_n hK 0 rfl rfl d4_measure_79 ?_
    refine g_iload_n hK 3 rfl rfl d4_measure_80 ?_
    refine g_callVco hK (mk := mkL) (rm := rm4_measurePart) (cb := 0) (sb := 0) (As := [.int (zi x3)]) (b := 200) (n := 1) (c4_measurePart K.2.1 hK.2.2.2.2.2.2.2.2.1 Z x3 μ hx3) rfl (ci := 4) rfl (by decide) kc_200 q_554 q_556 qs_4_measurePart q_6 q_557 rfl (by decide +kernel) (by decide) (Nat.le_of_ble_eq_true rfl) (Nat.le_of_ble_eq_true rfl) (Nat.le_of_ble_eq_true rfl) rfl d4_measure_81 (fun r4 hr4 hpr4 => ?_)
    refine g_lv (lv2 := [(0, .ref (Z.2.2.1 + 200)), (1, .int (zi x1)), (2, .int (zi x2))]) [0, 1, 2] rfl ?_
    exact p4_measure_84 hcx k6 hk6 k14 hk14 x1 x2 r4 x2 μ hx1 hx2 hpr4 hx2
  · refine g_iload hK 4 rfl d4_measure_73 ?_
    refine g_i2l hK d4_measure_75 hs0 ?_
    refine g_goto hK (tgt := 84) (by decide) d4_measure_76 ?_
    refine g_lv (lv2 := [(0, .ref (Z.2.2.1 + 200)), (1, .int (zi x1)), (2, .int (zi x2))]) [0, 1, 2] rfl ?_
    exact p4_measure_84 hcx k6 hk6 k14 hk14 x1 x2 s0 x2 μ hx1 hx2 (zr_64 hs0) hx2
set_option maxRecDepth 20000 in
theorem p4_measure_14 {K : zK} {Z : zZ} (hcx : zOk K Z b4_measure RX4 5 (none) 3 80 0 0 ∧ ∀ x ∈ K.2.2.2.2.2.2.2.2.2.exceptionTable.toList, False) (k6 : Int → zM → Option zM) (hk6 : ∀ (x1 : Int) (μ : zM) (hx1 : zr x1), zG K Z (zΩ Z) (zF K Z (zΩ Z) zeM) 0 0 6 [(0, .ref (Z.2.2.1 + 200)), (1, .int (zi x1))] [] μ (k6 x1 μ)) (k14 : Int → Int → zM → Option zM) (hk14 : ∀ (x1 : Int) (x2 : Int) (μ : zM) (hx1 : zr x1) (hx2 : zr x2), zG K Z (zΩ Z) (zF K Z (zΩ Z) zeM) 0 0 14 [(0, .ref (Z.2.2.1 + 200)), (1, .int (zi x1)), (2, .int (zi x2))] [] μ (k14 x1 x2 μ)) (x1 : Int) (x2 : Int) (μ : zM) (hx1 : zr x1) (hx2 : zr x2) : zG K Z (zΩ Z) (zF K Z (zΩ Z) zeM) 0 0 14 [(0, .ref (Z.2.2.1 + 200)), (1, .int (zi x1)), (2, .int (zi x2))] [] μ (f4_measure_14 k6 k14 x1 x2 μ) := by
  obtain ⟨hK, hex⟩ := id hcx
  unfold f4_measure_14
  refine g_iload_n hK 2 rfl rfl d4_measure_14 ?_
  refine g_bipush hK d4_measure_15 zkb10 ?_
  refine g_icmp_ge hK hx2 zc10 (tgt := 91) (by decide) d4_measure_17 (fun _ => ?_) (fun _ => ?_)
  · refine g_iinc hK (lv2 := fun v1 => [(0, .ref (Z.2.2.1 + 200)), (1, .int (zi v1)), (2, .int (zi x2))]) 1 rfl [1, 0, 2] (fun _ => rfl) (by decide) d4_measure_91 (fun v1 hv1 => ?_)
    refine g_goto hK (tgt := 6) (by decide) d4_measure_94 ?_
    refine g_lv (lv2 := [(0, .ref (Z.2.2.1 + 200)), (1, .int (zi v1))]) [0, 1] rfl ?_
    exact hk6 v1 μ hv1
  · refine g_aload_n hK 0 rfl rfl d4_measure_20 ?_
    refine g_getM hK zfin_4 (fa_4_0 kc_200) q_228 (w := 2) (by decide) d4_measure_21 (fun hm1 => ?_)
    refine g_getR hK zfin_2 (fa_2_9 hm1) q_76 (pt_2_dependsOn hm1) d4_measure_24 ?_
    refine g_iload_n hK 2 rfl rfl d4_measure_27 ?_
    refine g_iald hK (pt_2_dependsOn_k hm1) d4_measure_28 (fun _ hl1 => ?_)
    refine g_callSco hK (mk := mkI) (rm := rmJ_bitCount) (cb := 0) (sb := 0) (As := [.int (zi (zI μ (zsb (zR μ 200 0) + 7) (zx x2)))]) (n := 1) (cJ_bitCount K.2.1 hK.2.2.2.2.2.2.2.2.1 Z (zI μ (zsb (zR μ 200 0) + 7) (zx x2)) μ hl1) q_548 q_549 q_21 q_550 rfl (by decide +kernel) (by decide) (Nat.le_of_ble_eq_true rfl) (Nat.le_of_ble_eq_true rfl) (Nat.le_of_ble_eq_true rfl) rfl d4_measure_29 (fun r2 hr2 hpr2 => ?_)
    refine g_iload_n hK 1 rfl rfl d4_measure_32 ?_
    refine g_icmp_ne hK hpr2 hx1 (tgt := 85) (by decide) d4_measure_33 (fun _ => ?_) (fun _ => ?_)
    · refine g_iinc hK (lv2 := fun v2 => [(0, .ref (Z.2.2.1 + 200)), (1, .int (zi x1)), (2, .int (zi v2))]) 2 rfl [1, 2, 0] (fun _ => rfl) (by decide) d4_measure_85 (fun v2 hv2 => ?_)
      refine g_goto hK (tgt := 14) (by decide) d4_measure_88 ?_
      exact hk14 x1 v2 μ hx1 hv2
    · refine g_aload_n hK 0 rfl rfl d4_measure_36 ?_
      refine g_getR hK zfin_4 (fa_4_5 kc_200) q_237 (r := 203) (by decide +kernel) d4_measure_37 ?_
      refine g_iload_n hK 2 rfl rfl d4_measure_40 ?_
      refine g_iald hK kc_203 d4_measure_41 (fun _ hl2 => ?_)
      refine g_ltI hl2 (fun v3 hv3 => ?_)
      refine g_istore_n hK (lv2 := [(0, .ref (Z.2.2.1 + 200)), (1, .int (zi x1)), (2, .int (zi x2)), (3, .int (zi v3))]) [1, 2, 3, 0] rfl rfl (by decide) d4_measure_42 ?_
      refine g_aload_n hK 0 rfl rfl d4_measure_43 ?_
      refine g_iload_n hK 2 rfl rfl d4_measure_44 ?_
      refine g_callVco hK (mk := mkZ) (rm := rm4_isTyped) (cb := 0) (sb := 0) (As := [.int (zi x2)]) (b := 200) (n := 1) (c4_isTyped K.2.1 hK.2.2.2.2.2.2.2.2.1 Z x2 μ hx2) rfl (ci := 4) rfl (by decide) kc_200 q_544 q_545 q_546 q_6 q_547 rfl (by decide +kernel) (by decide) (Nat.le_of_ble_eq_true rfl) (Nat.le_of_ble_eq_true rfl) (Nat.le_of_ble_eq_true rfl) rfl d4_measure_45 (fun r3 hr3 hpr3 => ?_)
      refine g_if_eq hK (zb_r r3) (tgt := 60) (by decide) d4_measure_48 (fun _ => ?_) (fun _ => ?_)
      · refine g_iconst hK d4_measure_60 zki0 ?_
        exact p4_measure_61 hcx k6 hk6 k14 hk14 x1 x2 v3 0 μ hx1 hx2 hv3 zc0
      · refine g_aload_n hK 0 rfl rfl d4_measure_51 ?_
        refine g_getR hK zfin_4 (fa_4_2 kc_200) q_232 (r := 201) (by decide +kernel) d4_measure_52 ?_
        refine g_iload_n hK 2 rfl rfl d4_measure_55 ?_
        refine g_iald hK kc_201 d4_measure_56 (fun _ hl3 => ?_)
        refine g_goto hK (tgt := 61) (by decide) d4_measure_57 ?_
        exact p4_measure_61 hcx k6 hk6 k14 hk14 x1 x2 v3 (zI μ 201 (zx x2)) μ hx1 hx2 hv3 hl3
set_option maxRecDepth 20000 in
theorem l4_measure_14 {K : zK} {Z : zZ} (hcx : zOk K Z b4_measure RX4 5 (none) 3 80 0 0 ∧ ∀ x ∈ K.2.2.2.2.2.2.2.2.2.exceptionTable.toList, False) (k6 : Int → zM → Option zM) (hk6 : ∀ (x1 : Int) (μ : zM) (hx1 : zr x1), zG K Z (zΩ Z) (zF K Z (zΩ Z) zeM) 0 0 6 [(0, .ref (Z.2.2.1 + 200)), (1, .int (zi x1))] [] μ (k6 x1 μ)) : ∀ (i9 : Nat) (x1 : Int) (x2 : Int) (μ : zM) (hx1 : zr x1) (hx2 : zr x2), zG K Z (zΩ Z) (zF K Z (zΩ Z) zeM) 0 0 14 [(0, .ref (Z.2.2.1 + 200)), (1, .int (zi x1)), (2, .int (zi x2))] [] μ (zfx (f4_measure_14 k6) (fun _ _ _ => none) i9 x1 x2 μ) := by
  intro i9
  induction i9 with
  | zero => intro x1 x2 μ hx1 hx2; exact g_none
  | succ i9 ih => intro x1 x2 μ hx1 hx2; exact p4_measure_14 hcx k6 hk6 (zfx (f4_measure_14 k6) (fun _ _ _ => none) i9) ih x1 x2 μ hx1 hx2
set_option maxRecDepth 20000 in
theorem p4_measure_6 {K : zK} {Z : zZ} (hcx : zOk K Z b4_measure RX4 5 (none) 3 80 0 0 ∧ ∀ x ∈ K.2.2.2.2.2.2.2.2.2.exceptionTable.toList, False) (k6 : Int → zM → Option zM) (hk6 : ∀ (x1 : Int) (μ : zM) (hx1 : zr x1), zG K Z (zΩ Z) (zF K Z (zΩ Z) zeM) 0 0 6 [(0, .ref (Z.2.2.1 + 200)), (1, .int (zi x1))] [] μ (k6 x1 μ)) (x1 : Int) (μ : zM) (hx1 : zr x1) : zG K Z (zΩ Z) (zF K Z (zΩ Z) zeM) 0 0 6 [(0, .ref (Z.2.2.1 + 200)), (1, .int (zi x1))] [] μ (f4_measure_6 k6 x1 μ) := by
  obtain ⟨hK, hex⟩ := id hcx
  unfold f4_measure_6
  refine g_iload_n hK 1 rfl rfl d4_measure_6 ?_
  refine g_bipush hK d4_measure_7 zkb10 ?_
  refine g_icmp_ge hK hx1 zc10 (tgt := 97) (by decide) d4_measure_9 (fun _ => ?_) (fun _ => ?_)
  · refine g_aload_n hK 0 rfl rfl d4_measure_97 ?_
    refine g_aload_n hK 0 rfl rfl d4_measure_98 ?_
    refine g_iconst hK d4_measure_99 zkim1 ?_
    refine g_callVco hK (mk := mkL) (rm := rm4_measurePart) (cb := 0) (sb := 0) (As := [.int (zi (-1))]) (b := 200) (n := 1) (c4_measurePart K.2.1 hK.2.2.2.2.2.2.2.2.1 Z (-1) μ zcm1) rfl (ci := 4) rfl (by decide) kc_200 q_554 q_556 qs_4_measurePart q_6 q_557 rfl (by decide +kernel) (by decide) (Nat.le_of_ble_eq_true rfl) (Nat.le_of_ble_eq_true rfl) (Nat.le_of_ble_eq_true rfl) rfl d4_measure_100 (fun r1 hr1 hpr1 => ?_)
    refine g_putL hK zfin_4 (fa_4_8 kc_200) q_243 hpr1 rfl (tyX4_ok 8 (by decide)) tyX4 tyX4_ok nmX4 d4_measure_103 ?_
    refine g_ltM (fun m2 => ?_)
    exact g_vret hK rfl rfl d4_measure_106
  · refine g_iconst hK d4_measure_12 zki0 ?_
    refine g_istore_n hK (lv2 := [(0, .ref (Z.2.2.1 + 200)), (1, .int (zi x1)), (2, .int (zi 0))]) [1, 2, 0] rfl rfl (by decide) d4_measure_13 ?_
    exact l4_measure_14 hcx k6 hk6 zFu x1 0 μ hx1 zc0
set_option maxRecDepth 20000 in
theorem l4_measure_6 {K : zK} {Z : zZ} (hcx : zOk K Z b4_measure RX4 5 (none) 3 80 0 0 ∧ ∀ x ∈ K.2.2.2.2.2.2.2.2.2.exceptionTable.toList, False) : ∀ (i9 : Nat) (x1 : Int) (μ : zM) (hx1 : zr x1), zG K Z (zΩ Z) (zF K Z (zΩ Z) zeM) 0 0 6 [(0, .ref (Z.2.2.1 + 200)), (1, .int (zi x1))] [] μ (zfx (f4_measure_6) (fun _ _ => none) i9 x1 μ) := by
  intro i9
  induction i9 with
  | zero => intro x1 μ hx1; exact g_none
  | succ i9 ih => intro x1 μ hx1; exact p4_measure_6 hcx  (zfx (f4_measure_6) (fun _ _ => none) i9) ih x1 μ hx1
set_option maxRecDepth 20000 in
theorem c4_measure (l : Launch) (hst : l.stackTraces = false) (Z : zZ) (μ : zM) : ∀ x, f4_measure μ = some x → zCt l Z (zΩ Z) y4_measure (zws (.code y4_measure b4_measure 5 (none))) rm4_measure [.ref (Z.2.2.1 + 200)] μ (zeM x) := by
  intro x h
  refine zCt.of (enc := zeM) h (by decide) hst (Nat.le_of_ble_eq_true rfl) (fun K hK0 hex hl _ => ?_)
  subst hl
  have hcx : zOk K Z b4_measure RX4 5 (none) 3 80 0 0 ∧ ∀ x ∈ K.2.2.2.2.2.2.2.2.2.exceptionTable.toList, False := ⟨hK0, hex⟩
  have hK := hcx.1
  show zG K Z (zΩ Z) (zF K Z (zΩ Z) zeM) 0 0 0 [(0, .ref (Z.2.2.1 + 200))] [] μ (f4_measure μ)
  unfold f4_measure
  refine g_aload_n hK 0 rfl rfl d4_measure_0 ?_
  refine g_callVcm hK (rm := rm4_show) (cb := 0) (sb := 0) (As := []) (b := 200) (n := 0) (c4_show K.2.1 hK.2.2.2.2.2.2.2.2.1 Z  μ ) rfl (ci := 4) rfl (by decide) kc_200 q_536 q_538 qs_4_show q_6 q_539 rfl (by decide +kernel) (by decide) (Nat.le_of_ble_eq_true rfl) (Nat.le_of_ble_eq_true rfl) (Nat.le_of_ble_eq_true rfl) rfl d4_measure_1 (fun m1 hm1 => ?_)
  refine g_iconst hK d4_measure_4 zki0 ?_
  refine g_istore_n hK (lv2 := [(0, .ref (Z.2.2.1 + 200)), (1, .int (zi 0))]) [1, 0] rfl rfl (by decide) d4_measure_5 ?_
  exact l4_measure_6 hcx  zFu 0 m1 zc0
set_option maxRecDepth 20000 in
theorem p4_lengthAheadInPart_22 {K : zK} {Z : zZ} (hcx : zOk K Z b4_lengthAheadInPart RX4 7 (some .long) 2 56 0 0 ∧ ∀ x ∈ K.2.2.2.2.2.2.2.2.2.exceptionTable.toList, False) (a1 : Int) (μ : zM) (ha1 : zr a1) (k22 : Int → Int → Int → Option Int) (hk22 : ∀ (x2 : Int) (x3 : Int) (x5 : Int) (hx2 : zr x2) (hx3 : zr64 x3) (hx5 : zr x5), zG K Z (zΩ Z) (zF K Z (zΩ Z) (zeP mkL μ)) 0 0 22 [(0, .ref (Z.2.2.1 + 200)), (1, .int (zi a1)), (2, .int (zi x2)), (3, .long (zl x3)), (5, .int (zi x5))] [] μ (k22 x2 x3 x5)) (x2 : Int) (x3 : Int) (x5 : Int) (hx2 : zr x2) (hx3 : zr64 x3) (hx5 : zr x5) : zG K Z (zΩ Z) (zF K Z (zΩ Z) (zeP mkL μ)) 0 0 22 [(0, .ref (Z.2.2.1 + 200)), (1, .int (zi a1)), (2, .int (zi x2)), (3, .long (zl x3)), (5, .int (zi x5))] [] μ (f4_lengthAheadInPart_22 a1 μ k22 x2 x3 x5) := by
  obtain ⟨hK, hex⟩ := id hcx
  unfold f4_lengthAheadInPart_22
  refine g_iload hK 4 rfl d4_lengthAheadInPart_22 ?_
  refine g_aload_n hK 0 rfl rfl d4_lengthAheadInPart_24 ?_
  refine g_getM hK zfin_4 (fa_4_0 kc_200) q_228 (w := 2) (by decide) d4_lengthAheadInPart_25 (fun hm3 => ?_)
  refine g_getR hK zfin_2 (fa_2_13 hm3) q_85 (pt_2_itemOfOccurrence hm3) d4_lengthAheadInPart_28 ?_
  refine g_iload_n hK 1 rfl rfl d4_lengthAheadInPart_31 ?_
  refine g_iald hK (pt_2_itemOfOccurrence_k hm3) d4_lengthAheadInPart_32 (fun _ hl2 => ?_)
  refine g_icmp_ge hK hx5 hl2 (tgt := 89) (by decide) d4_lengthAheadInPart_33 (fun _ => ?_) (fun _ => ?_)
  · refine g_lload_n hK 3 rfl rfl d4_lengthAheadInPart_89 ?_
    exact g_lret hK hx3 rfl rfl d4_lengthAheadInPart_90
  · refine g_aload_n hK 0 rfl rfl d4_lengthAheadInPart_36 ?_
    refine g_getM hK zfin_4 (fa_4_0 kc_200) q_228 (w := 2) (by decide) d4_lengthAheadInPart_37 (fun hm4 => ?_)
    refine g_getR hK zfin_2 (fa_2_12 hm4) q_83 (pt_2_partOfItem hm4) d4_lengthAheadInPart_40 ?_
    refine g_iload hK 4 rfl d4_lengthAheadInPart_43 ?_
    refine g_iald hK (pt_2_partOfItem_k hm4) d4_lengthAheadInPart_45 (fun _ hl3 => ?_)
    refine g_iload_n hK 2 rfl rfl d4_lengthAheadInPart_46 ?_
    refine g_icmp_ne hK hl3 hx2 (tgt := 83) (by decide) d4_lengthAheadInPart_47 (fun _ => ?_) (fun _ => ?_)
    · refine g_iinc hK (lv2 := fun v2 => [(0, .ref (Z.2.2.1 + 200)), (1, .int (zi a1)), (2, .int (zi x2)), (3, .long (zl x3)), (5, .int (zi v2))]) 4 rfl [1, 2, 3, 4, 0] (fun _ => rfl) (by decide) d4_lengthAheadInPart_83 (fun v2 hv2 => ?_)
      refine g_goto hK (tgt := 22) (by decide) d4_lengthAheadInPart_86 ?_
      exact hk22 x2 x3 v2  hx2 hx3 hv2
    · refine g_aload_n hK 0 rfl rfl d4_lengthAheadInPart_50 ?_
      refine g_getM hK zfin_4 (fa_4_0 kc_200) q_228 (w := 2) (by decide) d4_lengthAheadInPart_51 (fun hm5 => ?_)
      refine g_getR hK zfin_2 (fa_2_11 hm5) q_81 (pt_2_items hm5) d4_lengthAheadInPart_54 ?_
      refine g_iload hK 4 rfl d4_lengthAheadInPart_57 ?_
      refine g_iald hK (pt_2_items_k hm5) d4_lengthAheadInPart_59 (fun _ hl4 => ?_)
      refine g_ltI hl4 (fun v3 hv3 => ?_)
      refine g_istore hK (lv2 := [(0, .ref (Z.2.2.1 + 200)), (1, .int (zi a1)), (2, .int (zi x2)), (3, .long (zl x3)), (5, .int (zi x5)), (6, .int (zi v3))]) [1, 2, 3, 4, 5, 0] rfl (by decide) d4_lengthAheadInPart_60 ?_
      refine g_lload_n hK 3 rfl rfl d4_lengthAheadInPart_62 ?_
      refine g_iload hK 5 rfl d4_lengthAheadInPart_63 ?_
      refine g_if_lt hK hv3 (tgt := 72) (by decide) d4_lengthAheadInPart_65 (fun _ => ?_) (fun _ => ?_)
      · refine g_aload_n hK 0 rfl rfl d4_lengthAheadInPart_72 ?_
        refine g_iload hK 5 rfl d4_lengthAheadInPart_73 ?_
        refine g_ineg hK d4_lengthAheadInPart_75 (fun v4 hv4 => ?_)
        refine g_iconst hK d4_lengthAheadInPart_76 zki1 ?_
        refine g_isub hK d4_lengthAheadInPart_77 (fun v5 hv5 => ?_)
        refine g_callVco hK (mk := mkL) (rm := rm4_changedLength) (cb := 0) (sb := 0) (As := [.int (zi v5)]) (b := 200) (n := 1) (c4_changedLength K.2.1 hK.2.2.2.2.2.2.2.2.1 Z v5 μ hv5) rfl (ci := 4) rfl (by decide) kc_200 q_558 q_559 q_560 q_6 q_561 rfl (by decide +kernel) (by decide) (Nat.le_of_ble_eq_true rfl) (Nat.le_of_ble_eq_true rfl) (Nat.le_of_ble_eq_true rfl) rfl d4_lengthAheadInPart_78 (fun r2 hr2 hpr2 => ?_)
        refine g_ladd hK d4_lengthAheadInPart_81 (fun w1 hw1 => ?_)
        refine g_lstore_n hK (lv2 := [(0, .ref (Z.2.2.1 + 200)), (1, .int (zi a1)), (2, .int (zi x2)), (3, .long (zl w1)), (5, .int (zi x5)), (6, .int (zi v3))]) [1, 2, 3, 0, 4, 5] rfl rfl (by decide) d4_lengthAheadInPart_82 ?_
        refine g_iinc hK (lv2 := fun v6 => [(0, .ref (Z.2.2.1 + 200)), (1, .int (zi a1)), (2, .int (zi x2)), (3, .long (zl w1)), (5, .int (zi v6)), (6, .int (zi v3))]) 4 rfl [1, 2, 3, 4, 0, 5] (fun _ => rfl) (by decide) d4_lengthAheadInPart_83 (fun v6 hv6 => ?_)
        refine g_goto hK (tgt := 22) (by decide) d4_lengthAheadInPart_86 ?_
        refine g_lv (lv2 := [(0, .ref (Z.2.2.1 + 200)), (1, .int (zi a1)), (2, .int (zi x2)), (3, .long (zl w1)), (5, .int (zi v6))]) [0, 1, 2, 3, 4] rfl ?_
        exact hk22 x2 w1 v6  hx2 hw1 hv6
      · refine g_lconst hK (v := 1) d4_lengthAheadInPart_68 rfl ?_
        refine g_goto hK (tgt := 81) (by decide) d4_lengthAheadInPart_69 ?_
        refine g_ladd hK d4_lengthAheadInPart_81 (fun w2 hw2 => ?_)
        refine g_lstore_n hK (lv2 := [(0, .ref (Z.2.2.1 + 200)), (1, .int (zi a1)), (2, .int (zi x2)), (3, .long (zl w2)), (5, .int (zi x5)), (6, .int (zi v3))]) [1, 2, 3, 0, 4, 5] rfl rfl (by decide) d4_lengthAheadInPart_82 ?_
        refine g_iinc hK (lv2 := fun v7 => [(0, .ref (Z.2.2.1 + 200)), (1, .int (zi a1)), (2, .int (zi x2)), (3, .long (zl w2)), (5, .int (zi v7)), (6, .int (zi v3))]) 4 rfl [1, 2, 3, 4, 0, 5] (fun _ => rfl) (by decide) d4_lengthAheadInPart_83 (fun v7 hv7 => ?_)
        refine g_goto hK (tgt := 22) (by decide) d4_lengthAheadInPart_86 ?_
        refine g_lv (lv2 := [(0, .ref (Z.2.2.1 + 200)), (1, .int (zi a1)), (2, .int (zi x2)), (3, .long (zl w2)), (5, .int (zi v7))]) [0, 1, 2, 3, 4] rfl ?_
        exact hk22 x2 w2 v7  hx2 hw2 hv7
set_option maxRecDepth 20000 in
theorem l4_lengthAheadInPart_22 {K : zK} {Z : zZ} (hcx : zOk K Z b4_lengthAheadInPart RX4 7 (some .long) 2 56 0 0 ∧ ∀ x ∈ K.2.2.2.2.2.2.2.2.2.exceptionTable.toList, False) (a1 : Int) (μ : zM) (ha1 : zr a1) : ∀ (i9 : Nat) (x2 : Int) (x3 : Int) (x5 : Int) (hx2 : zr x2) (hx3 : zr64 x3) (hx5 : zr x5), zG K Z (zΩ Z) (zF K Z (zΩ Z) (zeP mkL μ)) 0 0 22 [(0, .ref (Z.2.2.1 + 200)), (1, .int (zi a1)), (2, .int (zi x2)), (3, .long (zl x3)), (5, .int (zi x5))] [] μ (zfx (f4_lengthAheadInPart_22 a1 μ) (fun _ _ _ => none) i9 x2 x3 x5) := by
  intro i9
  induction i9 with
  | zero => intro x2 x3 x5 hx2 hx3 hx5; exact g_none
  | succ i9 ih => intro x2 x3 x5 hx2 hx3 hx5; exact p4_lengthAheadInPart_22 hcx a1 μ ha1  (zfx (f4_lengthAheadInPart_22 a1 μ) (fun _ _ _ => none) i9) ih x2 x3 x5 hx2 hx3 hx5
set_option maxRecDepth 20000 in
theorem c4_lengthAheadInPart (l : Launch) (hst : l.stackTraces = false) (Z : zZ) (a1 : Int) (μ : zM) (ha1 : zr a1) : ∀ x, f4_lengthAheadInPart a1 μ = some x → zCt l Z (zΩ Z) y4_lengthAheadInPart (zws (.code y4_lengthAheadInPart b4_lengthAheadInPart 7 (some .long))) rm4_lengthAheadInPart [.ref (Z.2.2.1 + 200), .int (zi a1)] μ (zeP mkL μ x) := by
  intro x h
  refine zCt.of (enc := (zeP mkL μ)) h (by decide) hst (Nat.le_of_ble_eq_true rfl) (fun K hK0 hex hl _ => ?_)
  subst hl
  have hcx : zOk K Z b4_lengthAheadInPart RX4 7 (some .long) 2 56 0 0 ∧ ∀ x ∈ K.2.2.2.2.2.2.2.2.2.exceptionTable.toList, False := ⟨hK0, hex⟩
  have hK := hcx.1
  show zG K Z (zΩ Z) (zF K Z (zΩ Z) (zeP mkL μ)) 0 0 0 [(0, .ref (Z.2.2.1 + 200)), (1, .int (zi a1))] [] μ (f4_lengthAheadInPart a1 μ)
  unfold f4_lengthAheadInPart
  refine g_aload_n hK 0 rfl rfl d4_lengthAheadInPart_0 ?_
  refine g_getM hK zfin_4 (fa_4_0 kc_200) q_228 (w := 2) (by decide) d4_lengthAheadInPart_1 (fun hm1 => ?_)
  refine g_getR hK zfin_2 (fa_2_7 hm1) q_70 (pt_2_parents hm1) d4_lengthAheadInPart_4 ?_
  refine g_iload_n hK 1 rfl rfl d4_lengthAheadInPart_7 ?_
  refine g_iald hK (pt_2_parents_k hm1) d4_lengthAheadInPart_8 (fun _ hl1 => ?_)
  refine g_ltI hl1 (fun v1 hv1 => ?_)
  refine g_istore_n hK (lv2 := [(0, .ref (Z.2.2.1 + 200)), (1, .int (zi a1)), (2, .int (zi v1))]) [1, 2, 0] rfl rfl (by decide) d4_lengthAheadInPart_9 ?_
  refine g_lconst hK (v := 0) d4_lengthAheadInPart_10 rfl ?_
  refine g_lstore_n hK (lv2 := [(0, .ref (Z.2.2.1 + 200)), (1, .int (zi a1)), (2, .int (zi v1)), (3, .long (zl 0))]) [1, 2, 3, 0] rfl rfl (by decide) d4_lengthAheadInPart_11 ?_
  refine g_aload_n hK 0 rfl rfl d4_lengthAheadInPart_12 ?_
  refine g_getM hK zfin_4 (fa_4_0 kc_200) q_228 (w := 2) (by decide) d4_lengthAheadInPart_13 (fun hm2 => ?_)
  refine g_iload_n hK 2 rfl rfl d4_lengthAheadInPart_16 ?_
  refine g_callVco hK (mk := mkI) (rm := rm2_firstItemOf) (cb := 0) (sb := 0) (As := [.int (zi v1)]) (b := (zR μ 200 0)) (n := 1) (c2_firstItemOf K.2.1 hK.2.2.2.2.2.2.2.2.1 Z (zR μ 200 0) v1 μ hm2 hv1) rfl (ci := 2) rfl (by decide) hm2 q_608 q_609 q_610 q_3 q_611 rfl (by decide +kernel) (by decide) (Nat.le_of_ble_eq_true rfl) (Nat.le_of_ble_eq_true rfl) (Nat.le_of_ble_eq_true rfl) rfl d4_lengthAheadInPart_17 (fun r1 hr1 hpr1 => ?_)
  refine g_istore hK (lv2 := [(0, .ref (Z.2.2.1 + 200)), (1, .int (zi a1)), (2, .int (zi v1)), (3, .long (zl 0)), (5, .int (zi r1))]) [1, 2, 3, 4, 0] rfl (by decide) d4_lengthAheadInPart_20 ?_
  exact l4_lengthAheadInPart_22 hcx a1 μ ha1  zFu v1 0 r1  hv1 zcL0 hpr1
set_option maxRecDepth 20000 in
theorem p4_startOf_19 {K : zK} {Z : zZ} (hcx : zOk K Z b4_startOf RX4 6 (some .int) 3 82 0 0 ∧ ∀ x ∈ K.2.2.2.2.2.2.2.2.2.exceptionTable.toList, False) (a1 : Int) (μ : zM) (ha1 : zr a1) (k19 : Int → Int → Int → Option Int) (hk19 : ∀ (x2 : Int) (x4 : Int) (x5 : Int) (hx2 : zr64 x2) (hx4 : zr x4) (hx5 : zr x5), zG K Z (zΩ Z) (zF K Z (zΩ Z) (zeP mkI μ)) 0 0 19 [(0, .ref (Z.2.2.1 + 200)), (2, .long (zl x2)), (4, .int (zi x4)), (5, .int (zi x5))] [] μ (k19 x2 x4 x5)) (x2 : Int) (x4 : Int) (x5 : Int) (hx2 : zr64 x2) (hx4 : zr x4) (hx5 : zr x5) : zG K Z (zΩ Z) (zF K Z (zΩ Z) (zeP mkI μ)) 0 0 19 [(0, .ref (Z.2.2.1 + 200)), (2, .long (zl x2)), (4, .int (zi x4)), (5, .int (zi x5))] [] μ (f4_startOf_19 a1 μ k19 x2 x4 x5) := by
  obtain ⟨hK, hex⟩ := id hcx
  unfold f4_startOf_19
  refine g_iload hK 3 rfl d4_startOf_19 ?_
  refine g_iconst hK d4_startOf_21 zki4 ?_
  refine g_icmp_gt hK hx5 zc4 (tgt := 58) (by decide) d4_startOf_22 (fun _ => ?_) (fun _ => ?_)
  · refine g_lload_n hK 1 rfl rfl d4_startOf_58 ?_
    refine g_l2i hK d4_startOf_59 (fun v1 hv1 => ?_)
    exact g_iret hK hv1 rfl rfl d4_startOf_60
  · refine g_iload hK 2 rfl d4_startOf_25 ?_
    refine g_iconst hK d4_startOf_27 zkim1 ?_
    refine g_icmp_eq hK hx4 zcm1 (tgt := 58) (by decide) d4_startOf_28 (fun _ => ?_) (fun _ => ?_)
    · refine g_lload_n hK 1 rfl rfl d4_startOf_58 ?_
      refine g_l2i hK d4_startOf_59 (fun v2 hv2 => ?_)
      exact g_iret hK hv2 rfl rfl d4_startOf_60
    · refine g_lload_n hK 1 rfl rfl d4_startOf_31 ?_
      refine g_aload_n hK 0 rfl rfl d4_startOf_32 ?_
      refine g_iload hK 2 rfl d4_startOf_33 ?_
      refine g_callVco hK (mk := mkL) (rm := rm4_lengthAheadInPart) (cb := 0) (sb := 0) (As := [.int (zi x4)]) (b := 200) (n := 1) (c4_lengthAheadInPart K.2.1 hK.2.2.2.2.2.2.2.2.1 Z x4 μ hx4) rfl (ci := 4) rfl (by decide) kc_200 q_941 q_943 qs_4_lengthAheadInPart q_6 q_944 rfl (by decide +kernel) (by decide) (Nat.le_of_ble_eq_true rfl) (Nat.le_of_ble_eq_true rfl) (Nat.le_of_ble_eq_true rfl) rfl d4_startOf_35 (fun r1 hr1 hpr1 => ?_)
      refine g_ladd hK d4_startOf_38 (fun w1 hw1 => ?_)
      refine g_lstore_n hK (lv2 := [(0, .ref (Z.2.2.1 + 200)), (2, .long (zl w1)), (4, .int (zi x4)), (5, .int (zi x5))]) [1, 0, 2, 3] rfl rfl (by decide) d4_startOf_39 ?_
      refine g_aload_n hK 0 rfl rfl d4_startOf_40 ?_
      refine g_getM hK zfin_4 (fa_4_0 kc_200) q_228 (w := 2) (by decide) d4_startOf_41 (fun hm1 => ?_)
      refine g_getR hK zfin_2 (fa_2_7 hm1) q_70 (pt_2_parents hm1) d4_startOf_44 ?_
      refine g_iload hK 2 rfl d4_startOf_47 ?_
      refine g_iald hK (pt_2_parents_k hm1) d4_startOf_49 (fun _ hl2 => ?_)
      refine g_ltI hl2 (fun v3 hv3 => ?_)
      refine g_istore hK (lv2 := [(0, .ref (Z.2.2.1 + 200)), (2, .long (zl w1)), (4, .int (zi v3)), (5, .int (zi x5))]) [1, 2, 0, 3] rfl (by decide) d4_startOf_50 ?_
      refine g_iinc hK (lv2 := fun v4 => [(0, .ref (Z.2.2.1 + 200)), (2, .long (zl w1)), (4, .int (zi v3)), (5, .int (zi v4))]) 3 rfl [1, 2, 3, 0] (fun _ => rfl) (by decide) d4_startOf_52 (fun v4 hv4 => ?_)
      refine g_goto hK (tgt := 19) (by decide) d4_startOf_55 ?_
      exact hk19 w1 v3 v4  hw1 hv3 hv4
