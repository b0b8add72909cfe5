set_option maxRecDepth 20000 in
theorem p5_requireSlot_9 {K : zK} {Z : zZ} (hcx : zOk K Z b5_requireSlot RX5 1 (none) 6 90 1 6 ∧ ∀ x ∈ K.2.2.2.2.2.2.2.2.2.exceptionTable.toList, False) (a1 : Int) (ha1 : zr a1) (μ : zM) : zG K Z (zΩ Z) (zF K Z (zΩ Z) (zeX mkV)) 1 6 9 [] [] μ (f5_requireSlot_9 a1 μ) := by
  obtain ⟨hK, hex⟩ := id hcx
  unfold f5_requireSlot_9
  exact g_throwW hK (i9 := 15) hex rfl (by decide) q_818 q_19 rfl th_5_162 th_5_162_g158 d5_requireSlot_9 d5_requireSlot_12 d5_requireSlot_13 d5_requireSlot_16 d5_requireSlot_19 (by decide) (Nat.le_of_ble_eq_true rfl) (by decide) (by decide)
set_option maxRecDepth 20000 in
theorem c5_requireSlot (l : Launch) (hst : l.stackTraces = false) (Z : zZ) (a1 : Int) (μ : zM) (ha1 : zr a1) : ∀ x, f5_requireSlot a1 μ = some x → zCt l Z (zΩ Z) y5_requireSlot (zws (.code y5_requireSlot b5_requireSlot 1 (none))) rm5_requireSlot [.int (zi a1)] μ (zeX mkV x) := by
  intro x h
  refine zCt.of (enc := (zeX mkV)) h (by decide) hst (Nat.le_of_ble_eq_true rfl) (fun K hK0 hex hl _ => ?_)
  subst hl
  have hcx : zOk K Z b5_requireSlot RX5 1 (none) 6 90 1 6 ∧ ∀ x ∈ K.2.2.2.2.2.2.2.2.2.exceptionTable.toList, False := ⟨hK0, hex⟩
  have hK := hcx.1
  show zG K Z (zΩ Z) (zF K Z (zΩ Z) (zeX mkV)) 1 6 0 [(0, .int (zi a1))] [] μ (f5_requireSlot a1 μ)
  unfold f5_requireSlot
  refine g_iload_n hK 0 rfl rfl d5_requireSlot_0 ?_
  refine g_if_lt hK ha1 (tgt := 9) (by decide) d5_requireSlot_1 (fun _ => ?_) (fun _ => ?_)
  · refine g_lv (lv2 := []) [] rfl ?_
    exact p5_requireSlot_9 hcx a1 ha1   μ 
  · refine g_iload_n hK 0 rfl rfl d5_requireSlot_4 ?_
    refine g_iconst hK d5_requireSlot_5 zki2 ?_
    refine g_icmp_lt hK ha1 zc2 (tgt := 20) (by decide) d5_requireSlot_6 (fun _ => ?_) (fun _ => ?_)
    · exact g_vret hK rfl rfl d5_requireSlot_20
    · refine g_lv (lv2 := []) [] rfl ?_
      exact p5_requireSlot_9 hcx a1 ha1   μ 
set_option maxRecDepth 20000 in
theorem c5_save (l : Launch) (hst : l.stackTraces = false) (Z : zZ) (a1 : Int) (μ : zM) (ha1 : zr a1) : ∀ x, f5_save a1 μ = some x → zCt l Z (zΩ Z) y5_save (zws (.code y5_save b5_save 2 (some .int))) rm5_save [.ref (Z.2.2.1 + 1), .int (zi a1)] μ (zeX mkI x) := by
  intro x h
  refine zCt.of (enc := (zeX mkI)) h (by decide) hst (Nat.le_of_ble_eq_true rfl) (fun K hK0 hex hl _ => ?_)
  subst hl
  have hcx : zOk K Z b5_save RX5 2 (some .int) 7 110 1 6 ∧ ∀ x ∈ K.2.2.2.2.2.2.2.2.2.exceptionTable.toList, False := ⟨hK0, hex⟩
  have hK := hcx.1
  show zG K Z (zΩ Z) (zF K Z (zΩ Z) (zeX mkI)) 1 6 0 [(0, .ref (Z.2.2.1 + 1)), (1, .int (zi a1))] [] μ (f5_save a1 μ)
  unfold f5_save
  refine g_iload_n hK 1 rfl rfl d5_save_0 ?_
  refine g_callScx (mk2 := mkI) hK (mk := mkV) (rm := rm5_requireSlot) (cb := 0) (sb := 0) hex (As := [.int (zi a1)]) (n := 1) (c5_requireSlot K.2.1 hK.2.2.2.2.2.2.2.2.1 Z a1 μ ha1) q_1114 q_1115 q_1 q_1116 rfl (by decide +kernel) (by decide) (Nat.le_of_ble_eq_true rfl) (Nat.le_of_ble_eq_true rfl) (Nat.le_of_ble_eq_true rfl) rfl d5_save_1 (fun r1 m1 hr1 hpr1 => ?_)
  refine g_aload_n hK 0 rfl rfl d5_save_4 ?_
  refine g_getR hK zfin_5 (fa_5_11 kc_1) q_292 (r := 5) (by decide +kernel) d5_save_5 ?_
  refine g_iload_n hK 1 rfl rfl d5_save_8 ?_
  refine g_aald104 hK (g := fun i => (278 + 7 * i)) kc_5 zel_5_el d5_save_9 (fun hz1 => ?_)
  have he1 : zkd (278 + 7 * (zx a1)) = 3 := zel_5_ek _ (zx_lt hz1)
  refine g_aload_n hK 0 rfl rfl d5_save_10 ?_
  refine g_getR hK zfin_5 (fa_5_7 kc_1) q_288 (r := 193) (by decide +kernel) d5_save_11 ?_
  refine g_callVcm hK (rm := rm3_copyFrom) (cb := 0) (sb := 0) (As := [.ref (Z.2.2.1 + 193)]) (b := (278 + 7 * (zx a1))) (n := 1) (c3_copyFrom K.2.1 hK.2.2.2.2.2.2.2.2.1 Z (278 + 7 * (zx a1)) 193 m1 he1 kc_193) rfl (ci := 3) rfl (by decide) he1 q_594 q_595 q_596 q_5 q_597 rfl (by decide +kernel) (by decide) (Nat.le_of_ble_eq_true rfl) (Nat.le_of_ble_eq_true rfl) (Nat.le_of_ble_eq_true rfl) rfl d5_save_14 (fun m2 hm2 => ?_)
  refine g_aload_n hK 0 rfl rfl d5_save_17 ?_
  refine g_getR hK zfin_5 (fa_5_12 kc_1) q_293 (r := 6) (by decide +kernel) d5_save_18 ?_
  refine g_iload_n hK 1 rfl rfl d5_save_21 ?_
  refine g_iconst hK d5_save_22 zki1 ?_
  refine g_zast hK kc_6 d5_save_23 (fun _ => ?_)
  refine g_ltM (fun m3 => ?_)
  refine g_aload_n hK 0 rfl rfl d5_save_24 ?_
  refine g_getR hK zfin_5 (fa_5_7 kc_1) q_288 (r := 193) (by decide +kernel) d5_save_25 ?_
  refine g_getI hK zfin_3 (fa_3_1 kc_193) q_186 d5_save_28 (fun hf1 => ?_)
  exact g_iret hK hf1 rfl rfl d5_save_31
set_option maxRecDepth 20000 in
theorem c5_restore (l : Launch) (hst : l.stackTraces = false) (Z : zZ) (a1 : Int) (μ : zM) (ha1 : zr a1) : ∀ x, f5_restore a1 μ = some x → zCt l Z (zΩ Z) y5_restore (zws (.code y5_restore b5_restore 2 (some .int))) rm5_restore [.ref (Z.2.2.1 + 1), .int (zi a1)] μ (zeX mkI x) := by
  intro x h
  refine zCt.of (enc := (zeX mkI)) h (by decide) hst (Nat.le_of_ble_eq_true rfl) (fun K hK0 hex hl _ => ?_)
  subst hl
  have hcx : zOk K Z b5_restore RX5 2 (some .int) 7 110 2 12 ∧ ∀ x ∈ K.2.2.2.2.2.2.2.2.2.exceptionTable.toList, False := ⟨hK0, hex⟩
  have hK := hcx.1
  show zG K Z (zΩ Z) (zF K Z (zΩ Z) (zeX mkI)) 2 12 0 [(0, .ref (Z.2.2.1 + 1)), (1, .int (zi a1))] [] μ (f5_restore a1 μ)
  unfold f5_restore
  refine g_iload_n hK 1 rfl rfl d5_restore_0 ?_
  refine g_callScx (mk2 := mkI) hK (mk := mkV) (rm := rm5_requireSlot) (cb := 1) (sb := 6) hex (As := [.int (zi a1)]) (n := 1) (c5_requireSlot K.2.1 hK.2.2.2.2.2.2.2.2.1 Z a1 μ ha1) q_1114 q_1115 q_1 q_1116 rfl (by decide +kernel) (by decide) (Nat.le_of_ble_eq_true rfl) (Nat.le_of_ble_eq_true rfl) (Nat.le_of_ble_eq_true rfl) rfl d5_restore_1 (fun r1 m1 hr1 hpr1 => ?_)
  refine g_aload_n hK 0 rfl rfl d5_restore_4 ?_
  refine g_getR hK zfin_5 (fa_5_12 kc_1) q_293 (r := 6) (by decide +kernel) d5_restore_5 ?_
  refine g_iload_n hK 1 rfl rfl d5_restore_8 ?_
  refine g_zald hK kc_6 d5_restore_9 (fun _ hl1 => ?_)
  refine g_if_ne hK hl1 (tgt := 24) (by decide) d5_restore_10 (fun _ => ?_) (fun _ => ?_)
  · refine g_aload_n hK 0 rfl rfl d5_restore_24 ?_
    refine g_getR hK zfin_5 (fa_5_7 kc_1) q_288 (r := 193) (by decide +kernel) d5_restore_25 ?_
    refine g_aload_n hK 0 rfl rfl d5_restore_28 ?_
    refine g_getR hK zfin_5 (fa_5_11 kc_1) q_292 (r := 5) (by decide +kernel) d5_restore_29 ?_
    refine g_iload_n hK 1 rfl rfl d5_restore_32 ?_
    refine g_aald104 hK (g := fun i => (278 + 7 * i)) kc_5 zel_5_el d5_restore_33 (fun hz1 => ?_)
    have he1 : zkd (278 + 7 * (zx a1)) = 3 := zel_5_ek _ (zx_lt hz1)
    refine g_callVcm hK (rm := rm3_copyFrom) (cb := 1) (sb := 6) (As := [.ref (Z.2.2.1 + (278 + 7 * (zx a1)))]) (b := 193) (n := 1) (c3_copyFrom K.2.1 hK.2.2.2.2.2.2.2.2.1 Z 193 (278 + 7 * (zx a1)) m1 kc_193 he1) rfl (ci := 3) rfl (by decide) kc_193 q_594 q_595 q_596 q_5 q_597 rfl (by decide +kernel) (by decide) (Nat.le_of_ble_eq_true rfl) (Nat.le_of_ble_eq_true rfl) (Nat.le_of_ble_eq_true rfl) rfl d5_restore_34 (fun m2 hm2 => ?_)
    refine g_aload_n hK 0 rfl rfl d5_restore_37 ?_
    refine g_iconst hK d5_restore_38 zki0 ?_
    refine g_putI hK zfin_5 (fa_5_10 kc_1) q_291 zc0 rfl (tyX5_ok 10 (by decide)) tyX5 tyX5_ok nmX5 d5_restore_39 ?_
    refine g_ltM (fun m3 => ?_)
    refine g_aload_n hK 0 rfl rfl d5_restore_42 ?_
    refine g_getR hK zfin_5 (fa_5_7 kc_1) q_288 (r := 193) (by decide +kernel) d5_restore_43 ?_
    refine g_getI hK zfin_3 (fa_3_1 kc_193) q_186 d5_restore_46 (fun hf1 => ?_)
    exact g_iret hK hf1 rfl rfl d5_restore_49
  · exact g_throwW hK (i9 := 16) hex rfl (by decide) q_710 q_12 rfl th_5_70 th_5_70_g66 d5_restore_13 d5_restore_16 d5_restore_17 d5_restore_20 d5_restore_23 (by decide) (Nat.le_of_ble_eq_true rfl) (by decide) (by decide)
