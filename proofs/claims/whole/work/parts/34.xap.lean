set_option maxRecDepth 20000 in
theorem p5_countBytes_5 {K : zK} {Z : zZ} (hcx : zOk K Z b5_countBytes RX5 3 (some .int) 0 8 0 0 ∧ ∀ x ∈ K.2.2.2.2.2.2.2.2.2.exceptionTable.toList, False) (a1 : Int) (μ : zM) (ha1 : zr a1) (k5 : Int → Int → Option Int) (hk5 : ∀ (x1 : Int) (x2 : Int) (hx1 : zr x1) (hx2 : zr x2), zG K Z (zΩ Z) (zF K Z (zΩ Z) (zeP mkI μ)) 0 0 5 [(0, .int (zi a1)), (1, .int (zi x1)), (2, .int (zi x2))] [] μ (k5 x1 x2)) (x1 : Int) (x2 : Int) (hx1 : zr x1) (hx2 : zr x2) : zG K Z (zΩ Z) (zF K Z (zΩ Z) (zeP mkI μ)) 0 0 5 [(0, .int (zi a1)), (1, .int (zi x1)), (2, .int (zi x2))] [] μ (f5_countBytes_5 a1 k5 x1 x2) := by
  obtain ⟨hK, hex⟩ := id hcx
  unfold f5_countBytes_5
  refine g_iload_n hK 2 rfl rfl d5_countBytes_5 ?_
  refine g_if_lt hK hx2 (tgt := 28) (by decide) d5_countBytes_6 (fun _ => ?_) (fun _ => ?_)
  · refine g_iload_n hK 1 rfl rfl d5_countBytes_28 ?_
    exact g_iret hK hx1 rfl rfl d5_countBytes_29
  · refine g_iload_n hK 0 rfl rfl d5_countBytes_9 ?_
    refine g_iload_n hK 2 rfl rfl d5_countBytes_10 ?_
    refine g_iushr hK d5_countBytes_11 (fun v1 hv1 => ?_)
    refine g_sipush hK d5_countBytes_12 zks255 ?_
    refine g_iand hK d5_countBytes_15 (fun v2 hv2 => ?_)
    refine g_if_eq hK hv2 (tgt := 22) (by decide) d5_countBytes_16 (fun _ => ?_) (fun _ => ?_)
    · refine g_iinc hK (lv2 := fun v3 => [(0, .int (zi a1)), (1, .int (zi x1)), (2, .int (zi v3))]) 2 rfl [1, 2, 0] (fun _ => rfl) (by decide) d5_countBytes_22 (fun v3 hv3 => ?_)
      refine g_goto hK (tgt := 5) (by decide) d5_countBytes_25 ?_
      exact hk5 x1 v3  hx1 hv3
    · refine g_iinc hK (lv2 := fun v4 => [(0, .int (zi a1)), (1, .int (zi v4)), (2, .int (zi x2))]) 1 rfl [1, 0, 2] (fun _ => rfl) (by decide) d5_countBytes_19 (fun v4 hv4 => ?_)
      refine g_iinc hK (lv2 := fun v5 => [(0, .int (zi a1)), (1, .int (zi v4)), (2, .int (zi v5))]) 2 rfl [1, 2, 0] (fun _ => rfl) (by decide) d5_countBytes_22 (fun v5 hv5 => ?_)
      refine g_goto hK (tgt := 5) (by decide) d5_countBytes_25 ?_
      exact hk5 v4 v5  hv4 hv5
set_option maxRecDepth 20000 in
theorem l5_countBytes_5 {K : zK} {Z : zZ} (hcx : zOk K Z b5_countBytes RX5 3 (some .int) 0 8 0 0 ∧ ∀ x ∈ K.2.2.2.2.2.2.2.2.2.exceptionTable.toList, False) (a1 : Int) (μ : zM) (ha1 : zr a1) : ∀ (i9 : Nat) (x1 : Int) (x2 : Int) (hx1 : zr x1) (hx2 : zr x2), zG K Z (zΩ Z) (zF K Z (zΩ Z) (zeP mkI μ)) 0 0 5 [(0, .int (zi a1)), (1, .int (zi x1)), (2, .int (zi x2))] [] μ (zfx (f5_countBytes_5 a1) (fun _ _ => none) i9 x1 x2) := by
  intro i9
  induction i9 with
  | zero => intro x1 x2 hx1 hx2; exact g_none
  | succ i9 ih => intro x1 x2 hx1 hx2; exact p5_countBytes_5 hcx a1 μ ha1  (zfx (f5_countBytes_5 a1) (fun _ _ => none) i9) ih x1 x2 hx1 hx2
set_option maxRecDepth 20000 in
theorem c5_countBytes (l : Launch) (hst : l.stackTraces = false) (Z : zZ) (a1 : Int) (μ : zM) (ha1 : zr a1) : ∀ x, f5_countBytes a1 = some x → zCt l Z (zΩ Z) y5_countBytes (zws (.code y5_countBytes b5_countBytes 3 (some .int))) rm5_countBytes [.int (zi a1)] μ (zeP mkI μ x) := by
  intro x h
  refine zCt.of (enc := (zeP mkI μ)) h (by decide) hst (Nat.le_of_ble_eq_true rfl) (fun K hK0 hex hl _ => ?_)
  subst hl
  have hcx : zOk K Z b5_countBytes RX5 3 (some .int) 0 8 0 0 ∧ ∀ x ∈ K.2.2.2.2.2.2.2.2.2.exceptionTable.toList, False := ⟨hK0, hex⟩
  have hK := hcx.1
  show zG K Z (zΩ Z) (zF K Z (zΩ Z) (zeP mkI μ)) 0 0 0 [(0, .int (zi a1))] [] μ (f5_countBytes a1)
  unfold f5_countBytes
  refine g_iconst hK d5_countBytes_0 zki0 ?_
  refine g_istore_n hK (lv2 := [(0, .int (zi a1)), (1, .int (zi 0))]) [1, 0] rfl rfl (by decide) d5_countBytes_1 ?_
  refine g_bipush hK d5_countBytes_2 zkb24 ?_
  refine g_istore_n hK (lv2 := [(0, .int (zi a1)), (1, .int (zi 0)), (2, .int (zi 24))]) [1, 2, 0] rfl rfl (by decide) d5_countBytes_4 ?_
  exact l5_countBytes_5 hcx a1 μ ha1  zFu 0 24  zc0 zc24
set_option maxRecDepth 20000 in
theorem p5_bufferBytes_3 {K : zK} {Z : zZ} (hcx : zOk K Z b5_bufferBytes RX5 4 (none) 0 8 0 0 ∧ ∀ x ∈ K.2.2.2.2.2.2.2.2.2.exceptionTable.toList, False) (a1 : Int) (ha1 : zr a1) (k3 : Int → zM → Option zM) (hk3 : ∀ (x2 : Int) (μ : zM) (hx2 : zr x2), zG K Z (zΩ Z) (zF K Z (zΩ Z) zeM) 0 0 3 [(0, .ref (Z.2.2.1 + 1)), (1, .int (zi a1)), (2, .int (zi x2))] [] μ (k3 x2 μ)) (x2 : Int) (μ : zM) (hx2 : zr x2) : zG K Z (zΩ Z) (zF K Z (zΩ Z) zeM) 0 0 3 [(0, .ref (Z.2.2.1 + 1)), (1, .int (zi a1)), (2, .int (zi x2))] [] μ (f5_bufferBytes_3 a1 k3 x2 μ) := by
  obtain ⟨hK, hex⟩ := id hcx
  unfold f5_bufferBytes_3
  refine g_iload_n hK 2 rfl rfl d5_bufferBytes_3 ?_
  refine g_if_lt hK hx2 (tgt := 55) (by decide) d5_bufferBytes_4 (fun _ => ?_) (fun _ => ?_)
  · exact g_vret hK rfl rfl d5_bufferBytes_55
  · refine g_iload_n hK 1 rfl rfl d5_bufferBytes_7 ?_
    refine g_iload_n hK 2 rfl rfl d5_bufferBytes_8 ?_
    refine g_iushr hK d5_bufferBytes_9 (fun v1 hv1 => ?_)
    refine g_sipush hK d5_bufferBytes_10 zks255 ?_
    refine g_iand hK d5_bufferBytes_13 (fun v2 hv2 => ?_)
    refine g_istore_n hK (lv2 := [(0, .ref (Z.2.2.1 + 1)), (1, .int (zi a1)), (2, .int (zi x2)), (3, .int (zi v2))]) [1, 2, 3, 0] rfl rfl (by decide) d5_bufferBytes_14 ?_
    refine g_iload_n hK 3 rfl rfl d5_bufferBytes_15 ?_
    refine g_if_eq hK hv2 (tgt := 49) (by decide) d5_bufferBytes_16 (fun _ => ?_) (fun _ => ?_)
    · refine g_iinc hK (lv2 := fun v3 => [(0, .ref (Z.2.2.1 + 1)), (1, .int (zi a1)), (2, .int (zi v3)), (3, .int (zi v2))]) 2 rfl [1, 2, 0, 3] (fun _ => rfl) (by decide) d5_bufferBytes_49 (fun v3 hv3 => ?_)
      refine g_goto hK (tgt := 3) (by decide) d5_bufferBytes_52 ?_
      refine g_lv (lv2 := [(0, .ref (Z.2.2.1 + 1)), (1, .int (zi a1)), (2, .int (zi v3))]) [0, 1, 2] rfl ?_
      exact hk3 v3 μ hv3
    · refine g_aload_n hK 0 rfl rfl d5_bufferBytes_19 ?_
      refine g_getI hK zfin_5 (fa_5_1 kc_1) q_282 d5_bufferBytes_20 (fun hf1 => ?_)
      refine g_sipush hK d5_bufferBytes_23 zks700 ?_
      refine g_icmp_ge hK hf1 zc700 (tgt := 49) (by decide) d5_bufferBytes_26 (fun _ => ?_) (fun _ => ?_)
      · refine g_iinc hK (lv2 := fun v4 => [(0, .ref (Z.2.2.1 + 1)), (1, .int (zi a1)), (2, .int (zi v4)), (3, .int (zi v2))]) 2 rfl [1, 2, 0, 3] (fun _ => rfl) (by decide) d5_bufferBytes_49 (fun v4 hv4 => ?_)
        refine g_goto hK (tgt := 3) (by decide) d5_bufferBytes_52 ?_
        refine g_lv (lv2 := [(0, .ref (Z.2.2.1 + 1)), (1, .int (zi a1)), (2, .int (zi v4))]) [0, 1, 2] rfl ?_
        exact hk3 v4 μ hv4
      · refine g_aload_n hK 0 rfl rfl d5_bufferBytes_29 ?_
        refine g_getR hK zfin_5 (fa_5_0 kc_1) q_281 (r := 2) (by decide +kernel) d5_bufferBytes_30 ?_
        refine g_aload_n hK 0 rfl rfl d5_bufferBytes_33 ?_
        refine g_getI hK zfin_5 (fa_5_1 kc_1) q_282 d5_bufferBytes_34 (fun hf2 => ?_)
        refine g_iload_n hK 3 rfl rfl d5_bufferBytes_37 ?_
        refine g_iast hK hv2 kc_2 d5_bufferBytes_38 (fun _ => ?_)
        refine g_ltM (fun m1 => ?_)
        refine g_aload_n hK 0 rfl rfl d5_bufferBytes_39 ?_
        refine g_dup hK d5_bufferBytes_40 rfl ?_
        refine g_getI hK zfin_5 (fa_5_1 kc_1) q_282 d5_bufferBytes_41 (fun hf3 => ?_)
        refine g_iconst hK d5_bufferBytes_44 zki1 ?_
        refine g_iadd hK d5_bufferBytes_45 (fun v5 hv5 => ?_)
        refine g_putI hK zfin_5 (fa_5_1 kc_1) q_282 hv5 rfl (tyX5_ok 1 (by decide)) tyX5 tyX5_ok nmX5 d5_bufferBytes_46 ?_
        refine g_ltM (fun m2 => ?_)
        refine g_iinc hK (lv2 := fun v6 => [(0, .ref (Z.2.2.1 + 1)), (1, .int (zi a1)), (2, .int (zi v6)), (3, .int (zi v2))]) 2 rfl [1, 2, 0, 3] (fun _ => rfl) (by decide) d5_bufferBytes_49 (fun v6 hv6 => ?_)
        refine g_goto hK (tgt := 3) (by decide) d5_bufferBytes_52 ?_
        refine g_lv (lv2 := [(0, .ref (Z.2.2.1 + 1)), (1, .int (zi a1)), (2, .int (zi v6))]) [0, 1, 2] rfl ?_
        exact hk3 v6 m2 hv6
set_option maxRecDepth 20000 in
theorem l5_bufferBytes_3 {K : zK} {Z : zZ} (hcx : zOk K Z b5_bufferBytes RX5 4 (none) 0 8 0 0 ∧ ∀ x ∈ K.2.2.2.2.2.2.2.2.2.exceptionTable.toList, False) (a1 : Int) (ha1 : zr a1) : ∀ (i9 : Nat) (x2 : Int) (μ : zM) (hx2 : zr x2), zG K Z (zΩ Z) (zF K Z (zΩ Z) zeM) 0 0 3 [(0, .ref (Z.2.2.1 + 1)), (1, .int (zi a1)), (2, .int (zi x2))] [] μ (zfx (f5_bufferBytes_3 a1) (fun _ _ => none) i9 x2 μ) := by
  intro i9
  induction i9 with
  | zero => intro x2 μ hx2; exact g_none
  | succ i9 ih => intro x2 μ hx2; exact p5_bufferBytes_3 hcx a1 ha1  (zfx (f5_bufferBytes_3 a1) (fun _ _ => none) i9) ih x2 μ hx2
set_option maxRecDepth 20000 in
theorem c5_bufferBytes (l : Launch) (hst : l.stackTraces = false) (Z : zZ) (a1 : Int) (μ : zM) (ha1 : zr a1) : ∀ x, f5_bufferBytes a1 μ = some x → zCt l Z (zΩ Z) y5_bufferBytes (zws (.code y5_bufferBytes b5_bufferBytes 4 (none))) rm5_bufferBytes [.ref (Z.2.2.1 + 1), .int (zi a1)] μ (zeM x) := by
  intro x h
  refine zCt.of (enc := zeM) h (by decide) hst (Nat.le_of_ble_eq_true rfl) (fun K hK0 hex hl _ => ?_)
  subst hl
  have hcx : zOk K Z b5_bufferBytes RX5 4 (none) 0 8 0 0 ∧ ∀ x ∈ K.2.2.2.2.2.2.2.2.2.exceptionTable.toList, False := ⟨hK0, hex⟩
  have hK := hcx.1
  show zG K Z (zΩ Z) (zF K Z (zΩ Z) zeM) 0 0 0 [(0, .ref (Z.2.2.1 + 1)), (1, .int (zi a1))] [] μ (f5_bufferBytes a1 μ)
  unfold f5_bufferBytes
  refine g_bipush hK d5_bufferBytes_0 zkb24 ?_
  refine g_istore_n hK (lv2 := [(0, .ref (Z.2.2.1 + 1)), (1, .int (zi a1)), (2, .int (zi 24))]) [1, 2, 0] rfl rfl (by decide) d5_bufferBytes_2 ?_
  exact l5_bufferBytes_3 hcx a1 ha1  zFu 24 μ zc24
set_option maxRecDepth 20000 in
theorem c5_append (l : Launch) (hst : l.stackTraces = false) (Z : zZ) (a1 : Int) (a2 : Int) (a3 : Int) (a4 : Int) (a5 : Int) (μ : zM) (ha1 : zr a1) (ha2 : zr a2) (ha3 : zr a3) (ha4 : zr a4) (ha5 : zr a5) : ∀ x, f5_append a1 a2 a3 a4 a5 μ = some x → zCt l Z (zΩ Z) y5_append (zws (.code y5_append b5_append 7 (some .int))) rm5_append [.ref (Z.2.2.1 + 1), .int (zi a1), .int (zi a2), .int (zi a3), .int (zi a4), .int (zi a5)] μ (zeX mkI x) := by
  intro x h
  refine zCt.of (enc := (zeX mkI)) h (by decide) hst (Nat.le_of_ble_eq_true rfl) (fun K hK0 hex hl _ => ?_)
  subst hl
  have hcx : zOk K Z b5_append RX5 7 (some .int) 6 90 1 6 ∧ ∀ x ∈ K.2.2.2.2.2.2.2.2.2.exceptionTable.toList, False := ⟨hK0, hex⟩
  have hK := hcx.1
  show zG K Z (zΩ Z) (zF K Z (zΩ Z) (zeX mkI)) 1 6 0 [(0, .ref (Z.2.2.1 + 1)), (1, .int (zi a1)), (2, .int (zi a2)), (3, .int (zi a3)), (4, .int (zi a4)), (5, .int (zi a5))] [] μ (f5_append a1 a2 a3 a4 a5 μ)
  unfold f5_append
  refine g_iload_n hK 1 rfl rfl d5_append_0 ?_
  refine g_callSco hK (mk := mkI) (rm := rm5_countBytes) (cb := 1) (sb := 6) (As := [.int (zi a1)]) (n := 1) (c5_countBytes K.2.1 hK.2.2.2.2.2.2.2.2.1 Z a1 μ ha1) q_707 q_708 q_1 q_709 rfl (by decide +kernel) (by decide) (Nat.le_of_ble_eq_true rfl) (Nat.le_of_ble_eq_true rfl) (Nat.le_of_ble_eq_true rfl) rfl d5_append_1 (fun r1 hr1 hpr1 => ?_)
  refine g_iload_n hK 2 rfl rfl d5_append_4 ?_
  refine g_callSco hK (mk := mkI) (rm := rm5_countBytes) (cb := 1) (sb := 6) (As := [.int (zi a2)]) (n := 1) (c5_countBytes K.2.1 hK.2.2.2.2.2.2.2.2.1 Z a2 μ ha2) q_707 q_708 q_1 q_709 rfl (by decide +kernel) (by decide) (Nat.le_of_ble_eq_true rfl) (Nat.le_of_ble_eq_true rfl) (Nat.le_of_ble_eq_true rfl) rfl d5_append_5 (fun r2 hr2 hpr2 => ?_)
  refine g_iadd hK d5_append_8 (fun v1 hv1 => ?_)
  refine g_iload_n hK 3 rfl rfl d5_append_9 ?_
  refine g_callSco hK (mk := mkI) (rm := rm5_countBytes) (cb := 1) (sb := 6) (As := [.int (zi a3)]) (n := 1) (c5_countBytes K.2.1 hK.2.2.2.2.2.2.2.2.1 Z a3 μ ha3) q_707 q_708 q_1 q_709 rfl (by decide +kernel) (by decide) (Nat.le_of_ble_eq_true rfl) (Nat.le_of_ble_eq_true rfl) (Nat.le_of_ble_eq_true rfl) rfl d5_append_10 (fun r3 hr3 hpr3 => ?_)
  refine g_iadd hK d5_append_13 (fun v2 hv2 => ?_)
  refine g_iload hK 4 rfl d5_append_14 ?_
  refine g_callSco hK (mk := mkI) (rm := rm5_countBytes) (cb := 1) (sb := 6) (As := [.int (zi a4)]) (n := 1) (c5_countBytes K.2.1 hK.2.2.2.2.2.2.2.2.1 Z a4 μ ha4) q_707 q_708 q_1 q_709 rfl (by decide +kernel) (by decide) (Nat.le_of_ble_eq_true rfl) (Nat.le_of_ble_eq_true rfl) (Nat.le_of_ble_eq_true rfl) rfl d5_append_16 (fun r4 hr4 hpr4 => ?_)
  refine g_iadd hK d5_append_19 (fun v3 hv3 => ?_)
  refine g_iload hK 5 rfl d5_append_20 ?_
  refine g_callSco hK (mk := mkI) (rm := rm5_countBytes) (cb := 1) (sb := 6) (As := [.int (zi a5)]) (n := 1) (c5_countBytes K.2.1 hK.2.2.2.2.2.2.2.2.1 Z a5 μ ha5) q_707 q_708 q_1 q_709 rfl (by decide +kernel) (by decide) (Nat.le_of_ble_eq_true rfl) (Nat.le_of_ble_eq_true rfl) (Nat.le_of_ble_eq_true rfl) rfl d5_append_22 (fun r5 hr5 hpr5 => ?_)
  refine g_iadd hK d5_append_25 (fun v4 hv4 => ?_)
  refine g_istore hK (lv2 := [(0, .ref (Z.2.2.1 + 1)), (1, .int (zi a1)), (2, .int (zi a2)), (3, .int (zi a3)), (4, .int (zi a4)), (5, .int (zi a5)), (6, .int (zi v4))]) [1, 2, 3, 4, 5, 6, 0] rfl (by decide) d5_append_26 ?_
  refine g_aload_n hK 0 rfl rfl d5_append_28 ?_
  refine g_getI hK zfin_5 (fa_5_1 kc_1) q_282 d5_append_29 (fun hf1 => ?_)
  refine g_iload hK 6 rfl d5_append_32 ?_
  refine g_iadd hK d5_append_34 (fun v5 hv5 => ?_)
  refine g_sipush hK d5_append_35 zks700 ?_
  refine g_icmp_le hK hv5 zc700 (tgt := 51) (by decide) d5_append_38 (fun _ => ?_) (fun _ => ?_)
  · refine g_aload_n hK 0 rfl rfl d5_append_51 ?_
    refine g_iload_n hK 1 rfl rfl d5_append_52 ?_
    refine g_callVcm hK (rm := rm5_bufferBytes) (cb := 1) (sb := 6) (As := [.int (zi a1)]) (b := 1) (n := 1) (c5_bufferBytes K.2.1 hK.2.2.2.2.2.2.2.2.1 Z a1 μ ha1) rfl (ci := 5) rfl (by decide) kc_1 q_778 q_780 qs_5_bufferBytes q_1 q_781 rfl (by decide +kernel) (by decide) (Nat.le_of_ble_eq_true rfl) (Nat.le_of_ble_eq_true rfl) (Nat.le_of_ble_eq_true rfl) rfl d5_append_53 (fun m1 hm1 => ?_)
    refine g_aload_n hK 0 rfl rfl d5_append_56 ?_
    refine g_iload_n hK 2 rfl rfl d5_append_57 ?_
    refine g_callVcm hK (rm := rm5_bufferBytes) (cb := 1) (sb := 6) (As := [.int (zi a2)]) (b := 1) (n := 1) (c5_bufferBytes K.2.1 hK.2.2.2.2.2.2.2.2.1 Z a2 m1 ha2) rfl (ci := 5) rfl (by decide) kc_1 q_778 q_780 qs_5_bufferBytes q_1 q_781 rfl (by decide +kernel) (by decide) (Nat.le_of_ble_eq_true rfl) (Nat.le_of_ble_eq_true rfl) (Nat.le_of_ble_eq_true rfl) rfl d5_append_58 (fun m2 hm2 => ?_)
    refine g_aload_n hK 0 rfl rfl d5_append_61 ?_
    refine g_iload_n hK 3 rfl rfl d5_append_62 ?_
    refine g_callVcm hK (rm := rm5_bufferBytes) (cb := 1) (sb := 6) (As := [.int (zi a3)]) (b := 1) (n := 1) (c5_bufferBytes K.2.1 hK.2.2.2.2.2.2.2.2.1 Z a3 m2 ha3) rfl (ci := 5) rfl (by decide) kc_1 q_778 q_780 qs_5_bufferBytes q_1 q_781 rfl (by decide +kernel) (by decide) (Nat.le_of_ble_eq_true rfl) (Nat.le_of_ble_eq_true rfl) (Nat.le_of_ble_eq_true rfl) rfl d5_append_63 (fun m3 hm3 => ?_)
    refine g_aload_n hK 0 rfl rfl d5_append_66 ?_
    refine g_iload hK 4 rfl d5_append_67 ?_
    refine g_callVcm hK (rm := rm5_bufferBytes) (cb := 1) (sb := 6) (As := [.int (zi a4)]) (b := 1) (n := 1) (c5_bufferBytes K.2.1 hK.2.2.2.2.2.2.2.2.1 Z a4 m3 ha4) rfl (ci := 5) rfl (by decide) kc_1 q_778 q_780 qs_5_bufferBytes q_1 q_781 rfl (by decide +kernel) (by decide) (Nat.le_of_ble_eq_true rfl) (Nat.le_of_ble_eq_true rfl) (Nat.le_of_ble_eq_true rfl) rfl d5_append_69 (fun m4 hm4 => ?_)
    refine g_aload_n hK 0 rfl rfl d5_append_72 ?_
    refine g_iload hK 5 rfl d5_append_73 ?_
    refine g_callVcm hK (rm := rm5_bufferBytes) (cb := 1) (sb := 6) (As := [.int (zi a5)]) (b := 1) (n := 1) (c5_bufferBytes K.2.1 hK.2.2.2.2.2.2.2.2.1 Z a5 m4 ha5) rfl (ci := 5) rfl (by decide) kc_1 q_778 q_780 qs_5_bufferBytes q_1 q_781 rfl (by decide +kernel) (by decide) (Nat.le_of_ble_eq_true rfl) (Nat.le_of_ble_eq_true rfl) (Nat.le_of_ble_eq_true rfl) rfl d5_append_75 (fun m5 hm5 => ?_)
    refine g_aload_n hK 0 rfl rfl d5_append_78 ?_
    refine g_getI hK zfin_5 (fa_5_1 kc_1) q_282 d5_append_79 (fun hf2 => ?_)
    exact g_iret hK hf2 rfl rfl d5_append_82
  · exact g_throw hK (i9 := 4) hex rfl (by decide) q_710 q_12 rfl th_5_70 th_5_70_g66 d5_append_41 d5_append_44 d5_append_45 d5_append_47 d5_append_50 (by decide) (Nat.le_of_ble_eq_true rfl) (by decide) (by decide)
set_option maxRecDepth 20000 in
theorem p5_load_87 {K : zK} {Z : zZ} (hcx : zOk K Z b5_load RX5 2 (some .int) 9 270 0 0 ∧ ∀ x ∈ K.2.2.2.2.2.2.2.2.2.exceptionTable.toList, False) (k87 : Int → zM → Option (Int × zM)) (hk87 : ∀ (x1 : Int) (μ : zM) (hx1 : zr x1), zG K Z (zΩ Z) (zF K Z (zΩ Z) (ze2 mkI)) 0 0 87 [(0, .ref (Z.2.2.1 + 1)), (1, .int (zi x1))] [] μ (k87 x1 μ)) (x1 : Int) (μ : zM) (hx1 : zr x1) : zG K Z (zΩ Z) (zF K Z (zΩ Z) (ze2 mkI)) 0 0 87 [(0, .ref (Z.2.2.1 + 1)), (1, .int (zi x1))] [] μ (f5_load_87 k87 x1 μ) := by
  obtain ⟨hK, hex⟩ := id hcx
  unfold f5_load_87
  refine g_iload_n hK 1 rfl rfl d5_load_87 ?_
  refine g_iconst hK d5_load_88 zki2 ?_
  refine g_icmp_ge hK hx1 zc2 (tgt := 105) (by decide) d5_load_89 (fun _ => ?_) (fun _ => ?_)
  · refine g_aload_n hK 0 rfl rfl d5_load_105 ?_
    refine g_getM hK zfin_5 (fa_5_2 kc_1) q_283 (w := 0) (by decide) d5_load_106 (fun hm3 => ?_)
    refine g_getI hK zfin_0 (fa_0_1 hm3) q_133 d5_load_109 (fun hf6 => ?_)
    exact g_iret hK hf6 rfl rfl d5_load_112
  · refine g_aload_n hK 0 rfl rfl d5_load_92 ?_
    refine g_getR hK zfin_5 (fa_5_12 kc_1) q_293 (r := 6) (by decide +kernel) d5_load_93 ?_
    refine g_iload_n hK 1 rfl rfl d5_load_96 ?_
    refine g_iconst hK d5_load_97 zki0 ?_
    refine g_zast hK kc_6 d5_load_98 (fun _ => ?_)
    refine g_ltM (fun m9 => ?_)
    refine g_iinc hK (lv2 := fun v1 => [(0, .ref (Z.2.2.1 + 1)), (1, .int (zi v1))]) 1 rfl [1, 0] (fun _ => rfl) (by decide) d5_load_99 (fun v1 hv1 => ?_)
    refine g_goto hK (tgt := 87) (by decide) d5_load_102 ?_
    exact hk87 v1 m9 hv1
set_option maxRecDepth 20000 in
theorem l5_load_87 {K : zK} {Z : zZ} (hcx : zOk K Z b5_load RX5 2 (some .int) 9 270 0 0 ∧ ∀ x ∈ K.2.2.2.2.2.2.2.2.2.exceptionTable.toList, False) : ∀ (i9 : Nat) (x1 : Int) (μ : zM) (hx1 : zr x1), zG K Z (zΩ Z) (zF K Z (zΩ Z) (ze2 mkI)) 0 0 87 [(0, .ref (Z.2.2.1 + 1)), (1, .int (zi x1))] [] μ (zfx (f5_load_87) (fun _ _ => none) i9 x1 μ) := by
  intro i9
  induction i9 with
  | zero => intro x1 μ hx1; exact g_none
  | succ i9 ih => intro x1 μ hx1; exact p5_load_87 hcx  (zfx (f5_load_87) (fun _ _ => none) i9) ih x1 μ hx1
set_option maxRecDepth 20000 in
theorem c5_load (l : Launch) (hst : l.stackTraces = false) (Z : zZ) (μ : zM) : ∀ x, f5_load μ = some x → zCt l Z (zΩ Z) y5_load (zws (.code y5_load b5_load 2 (some .int))) rm5_load [.ref (Z.2.2.1 + 1)] μ (ze2 mkI x) := by
  intro x h
  refine zCt.of (enc := (ze2 mkI)) h (by decide) hst (Nat.le_of_ble_eq_true rfl) (fun K hK0 hex hl _ => ?_)
  subst hl
  have hcx : zOk K Z b5_load RX5 2 (some .int) 9 270 0 0 ∧ ∀ x ∈ K.2.2.2.2.2.2.2.2.2.exceptionTable.toList, False := ⟨hK0, hex⟩
  have hK := hcx.1
  show zG K Z (zΩ Z) (zF K Z (zΩ Z) (ze2 mkI)) 0 0 0 [(0, .ref (Z.2.2.1 + 1))] [] μ (f5_load μ)
  unfold f5_load
  refine g_aload_n hK 0 rfl rfl d5_load_0 ?_
  refine g_getR hK zfin_5 (fa_5_3 kc_1) q_284 (r := 99) (by decide +kernel) d5_load_1 ?_
  refine g_aload_n hK 0 rfl rfl d5_load_4 ?_
  refine g_getR hK zfin_5 (fa_5_0 kc_1) q_281 (r := 2) (by decide +kernel) d5_load_5 ?_
  refine g_aload_n hK 0 rfl rfl d5_load_8 ?_
  refine g_getI hK zfin_5 (fa_5_1 kc_1) q_282 d5_load_9 (fun hf1 => ?_)
  refine g_callVcm hK (rm := rm1_readLibrary) (cb := 0) (sb := 0) (As := [.ref (Z.2.2.1 + 2), .int (zi (zI μ 1 1))]) (b := 99) (n := 2) (c1_readLibrary K.2.1 hK.2.2.2.2.2.2.2.2.1 Z 2 (zI μ 1 1) μ kc_2 hf1) rfl (ci := 1) rfl (by decide) kc_99 q_328 q_329 q_330 q_4 q_331 rfl (by decide +kernel) (by decide) (Nat.le_of_ble_eq_true rfl) (Nat.le_of_ble_eq_true rfl) (Nat.le_of_ble_eq_true rfl) rfl d5_load_12 (fun m1 hm1 => ?_)
  refine g_aload_n hK 0 rfl rfl d5_load_15 ?_
  refine g_iconst hK d5_load_16 zki0 ?_
  refine g_putI hK zfin_5 (fa_5_1 kc_1) q_282 zc0 rfl (tyX5_ok 1 (by decide)) tyX5 tyX5_ok nmX5 d5_load_17 ?_
  refine g_ltM (fun m2 => ?_)
  refine g_aload_n hK 0 rfl rfl d5_load_20 ?_
  refine g_aload_n hK 0 rfl rfl d5_load_21 ?_
  refine g_getR hK zfin_5 (fa_5_3 kc_1) q_284 (r := 99) (by decide +kernel) d5_load_22 ?_
  refine g_getI hK zfin_1 (fa_1_6 kc_99) q_157 d5_load_25 (fun hf2 => ?_)
  refine g_putI hK zfin_5 (fa_5_4 kc_1) q_285 hf2 rfl (tyX5_ok 4 (by decide)) tyX5 tyX5_ok nmX5 d5_load_28 ?_
  refine g_ltM (fun m3 => ?_)
  refine g_aload_n hK 0 rfl rfl d5_load_31 ?_
  refine g_aload_n hK 0 rfl rfl d5_load_32 ?_
  refine g_getR hK zfin_5 (fa_5_3 kc_1) q_284 (r := 99) (by decide +kernel) d5_load_33 ?_
  refine g_getI hK zfin_1 (fa_1_7 kc_99) q_159 d5_load_36 (fun hf3 => ?_)
  refine g_putI hK zfin_5 (fa_5_5 kc_1) q_286 hf3 rfl (tyX5_ok 5 (by decide)) tyX5 tyX5_ok nmX5 d5_load_39 ?_
  refine g_ltM (fun m4 => ?_)
  refine g_aload_n hK 0 rfl rfl d5_load_42 ?_
  refine g_getI hK zfin_5 (fa_5_4 kc_1) q_285 d5_load_43 (fun hf4 => ?_)
  refine g_if_eq hK hf4 (tgt := 51) (by decide) d5_load_46 (fun _ => ?_) (fun _ => ?_)
  · refine g_aload_n hK 0 rfl rfl d5_load_51 ?_
    refine g_aload_n hK 0 rfl rfl d5_load_52 ?_
    refine g_getR hK zfin_5 (fa_5_3 kc_1) q_284 (r := 99) (by decide +kernel) d5_load_53 ?_
    refine g_aload_n hK 0 rfl rfl d5_load_56 ?_
    refine g_getM hK zfin_5 (fa_5_2 kc_1) q_283 (w := 0) (by decide) d5_load_57 (fun hm1 => ?_)
    refine g_callVcl hK (mk := (mkR Z.2.2.1 0)) (rm := rm1_exchange) (cb := 0) (sb := 0) (As := [.ref (Z.2.2.1 + (zR m4 1 2))]) (b := 99) (n := 1) (c1_exchange K.2.1 hK.2.2.2.2.2.2.2.2.1 Z (zR m4 1 2) m4 hm1) rfl (ci := 1) rfl (by decide) kc_99 q_483 q_484 q_485 q_4 q_486 rfl (by decide +kernel) (by decide) (Nat.le_of_ble_eq_true rfl) (Nat.le_of_ble_eq_true rfl) (Nat.le_of_ble_eq_true rfl) rfl d5_load_60 (fun r1 m5 hr1 hpr1 => ?_)
    refine g_putR hK (r := r1) (w := 0) zfin_5 (fa_5_2 kc_1) q_283 (by decide +kernel) (by decide) hpr1 (zkd_ne0 hpr1 (by decide)) (fun _ => rfl) (fun _ => rfl) rfl (tyX5_ok 2 (by decide)) tyX5 tyX5_ok nmX5 d5_load_63 ?_
    refine g_ltM (fun m6 => ?_)
    refine g_aload_n hK 0 rfl rfl d5_load_66 ?_
    refine g_getR hK zfin_5 (fa_5_7 kc_1) q_288 (r := 193) (by decide +kernel) d5_load_67 ?_
    refine g_aload_n hK 0 rfl rfl d5_load_70 ?_
    refine g_getM hK zfin_5 (fa_5_2 kc_1) q_283 (w := 0) (by decide) d5_load_71 (fun hm2 => ?_)
    refine g_getI hK zfin_0 (fa_0_2 hm2) q_135 d5_load_74 (fun hf5 => ?_)
    refine g_callVcm hK (rm := rm3_clear) (cb := 0) (sb := 0) (As := [.int (zi (zI m6 (zR m6 1 2) 2))]) (b := 193) (n := 1) (c3_clear K.2.1 hK.2.2.2.2.2.2.2.2.1 Z 193 (zI m6 (zR m6 1 2) 2) m6 kc_193 hf5) rfl (ci := 3) rfl (by decide) kc_193 q_487 q_488 q_489 q_5 q_490 rfl (by decide +kernel) (by decide) (Nat.le_of_ble_eq_true rfl) (Nat.le_of_ble_eq_true rfl) (Nat.le_of_ble_eq_true rfl) rfl d5_load_77 (fun m7 hm7 => ?_)
    refine g_aload_n hK 0 rfl rfl d5_load_80 ?_
    refine g_iconst hK d5_load_81 zki0 ?_
    refine g_putI hK zfin_5 (fa_5_10 kc_1) q_291 zc0 rfl (tyX5_ok 10 (by decide)) tyX5 tyX5_ok nmX5 d5_load_82 ?_
    refine g_ltM (fun m8 => ?_)
    refine g_iconst hK d5_load_85 zki0 ?_
    refine g_istore_n hK (lv2 := [(0, .ref (Z.2.2.1 + 1)), (1, .int (zi 0))]) [1, 0] rfl rfl (by decide) d5_load_86 ?_
    exact l5_load_87 hcx  zFu 0 m8 zc0
  · refine g_iconst hK d5_load_49 zkim1 ?_
    exact g_iret hK zcm1 rfl rfl d5_load_50
set_option maxRecDepth 20000 in
theorem c5_errorCode (l : Launch) (hst : l.stackTraces = false) (Z : zZ) (μ : zM) : ∀ x, f5_errorCode μ = some x → zCt l Z (zΩ Z) y5_errorCode (zws (.code y5_errorCode b5_errorCode 1 (some .int))) rm5_errorCode [.ref (Z.2.2.1 + 1)] μ (zeP mkI μ x) := by
  intro x h
  refine zCt.of (enc := (zeP mkI μ)) h (by decide) hst (Nat.le_of_ble_eq_true rfl) (fun K hK0 hex hl _ => ?_)
  subst hl
  have hcx : zOk K Z b5_errorCode RX5 1 (some .int) 0 8 0 0 ∧ ∀ x ∈ K.2.2.2.2.2.2.2.2.2.exceptionTable.toList, False := ⟨hK0, hex⟩
  have hK := hcx.1
  show zG K Z (zΩ Z) (zF K Z (zΩ Z) (zeP mkI μ)) 0 0 0 [(0, .ref (Z.2.2.1 + 1))] [] μ (f5_errorCode μ)
  unfold f5_errorCode
  refine g_aload_n hK 0 rfl rfl d5_errorCode_0 ?_
  refine g_getI hK zfin_5 (fa_5_4 kc_1) q_285 d5_errorCode_1 (fun hf1 => ?_)
  exact g_iret hK hf1 rfl rfl d5_errorCode_4
set_option maxRecDepth 20000 in
theorem c5_errorPosition (l : Launch) (hst : l.stackTraces = false) (Z : zZ) (μ : zM) : ∀ x, f5_errorPosition μ = some x → zCt l Z (zΩ Z) y5_errorPosition (zws (.code y5_errorPosition b5_errorPosition 1 (some .int))) rm5_errorPosition [.ref (Z.2.2.1 + 1)] μ (zeP mkI μ x) := by
  intro x h
  refine zCt.of (enc := (zeP mkI μ)) h (by decide) hst (Nat.le_of_ble_eq_true rfl) (fun K hK0 hex hl _ => ?_)
  subst hl
  have hcx : zOk K Z b5_errorPosition RX5 1 (some .int) 0 8 0 0 ∧ ∀ x ∈ K.2.2.2.2.2.2.2.2.2.exceptionTable.toList, False := ⟨hK0, hex⟩
  have hK := hcx.1
  show zG K Z (zΩ Z) (zF K Z (zΩ Z) (zeP mkI μ)) 0 0 0 [(0, .ref (Z.2.2.1 + 1))] [] μ (f5_errorPosition μ)
  unfold f5_errorPosition
  refine g_aload_n hK 0 rfl rfl d5_errorPosition_0 ?_
  refine g_getI hK zfin_5 (fa_5_5 kc_1) q_286 d5_errorPosition_1 (fun hf1 => ?_)
  exact g_iret hK hf1 rfl rfl d5_errorPosition_4
set_option maxRecDepth 20000 in
theorem c5_find (l : Launch) (hst : l.stackTraces = false) (Z : zZ) (μ : zM) : ∀ x, f5_find μ = some x → zCt l Z (zΩ Z) y5_find (zws (.code y5_find b5_find 2 (some .int))) rm5_find [.ref (Z.2.2.1 + 1)] μ (ze2 mkI x) := by
  intro x h
  refine zCt.of (enc := (ze2 mkI)) h (by decide) hst (Nat.le_of_ble_eq_true rfl) (fun K hK0 hex hl _ => ?_)
  subst hl
  have hcx : zOk K Z b5_find RX5 2 (some .int) 2 56 0 0 ∧ ∀ x ∈ K.2.2.2.2.2.2.2.2.2.exceptionTable.toList, False := ⟨hK0, hex⟩
  have hK := hcx.1
  show zG K Z (zΩ Z) (zF K Z (zΩ Z) (ze2 mkI)) 0 0 0 [(0, .ref (Z.2.2.1 + 1))] [] μ (f5_find μ)
  unfold f5_find
  refine g_aload_n hK 0 rfl rfl d5_find_0 ?_
  refine g_getM hK zfin_5 (fa_5_2 kc_1) q_283 (w := 0) (by decide) d5_find_1 (fun hm1 => ?_)
  refine g_aload_n hK 0 rfl rfl d5_find_4 ?_
  refine g_getR hK zfin_5 (fa_5_0 kc_1) q_281 (r := 2) (by decide +kernel) d5_find_5 ?_
  refine g_iconst hK d5_find_8 zki0 ?_
  refine g_aload_n hK 0 rfl rfl d5_find_9 ?_
  refine g_getI hK zfin_5 (fa_5_1 kc_1) q_282 d5_find_10 (fun hf1 => ?_)
  refine g_callVco hK (mk := mkI) (rm := rm0_indexOf) (cb := 0) (sb := 0) (As := [.ref (Z.2.2.1 + 2), .int (zi 0), .int (zi (zI μ 1 1))]) (b := (zR μ 1 2)) (n := 3) (c0_indexOf K.2.1 hK.2.2.2.2.2.2.2.2.1 Z (zR μ 1 2) 2 0 (zI μ 1 1) μ hm1 kc_2 zc0 hf1) rfl (ci := 0) rfl (by decide) hm1 q_504 q_405 q_406 q_2 q_407 rfl (by decide +kernel) (by decide) (Nat.le_of_ble_eq_true rfl) (Nat.le_of_ble_eq_true rfl) (Nat.le_of_ble_eq_true rfl) rfl d5_find_13 (fun r1 hr1 hpr1 => ?_)
  refine g_istore_n hK (lv2 := [(0, .ref (Z.2.2.1 + 1)), (1, .int (zi r1))]) [1, 0] rfl rfl (by decide) d5_find_16 ?_
  refine g_aload_n hK 0 rfl rfl d5_find_17 ?_
  refine g_iconst hK d5_find_18 zki0 ?_
  refine g_putI hK zfin_5 (fa_5_1 kc_1) q_282 zc0 rfl (tyX5_ok 1 (by decide)) tyX5 tyX5_ok nmX5 d5_find_19 ?_
  refine g_ltM (fun m1 => ?_)
  refine g_iload_n hK 1 rfl rfl d5_find_22 ?_
  exact g_iret hK hpr1 rfl rfl d5_find_23
set_option maxRecDepth 20000 in
theorem c5_size (l : Launch) (hst : l.stackTraces = false) (Z : zZ) (a1 : Int) (μ : zM) (ha1 : zr a1) : ∀ x, f5_size a1 μ = some x → zCt l Z (zΩ Z) y5_size (zws (.code y5_size b5_size 2 (some .int))) rm5_size [.ref (Z.2.2.1 + 1), .int (zi a1)] μ (zeX mkI x) := by
  intro x h
  refine zCt.of (enc := (zeX mkI)) h (by decide) hst (Nat.le_of_ble_eq_true rfl) (fun K hK0 hex hl _ => ?_)
  subst hl
  have hcx : zOk K Z b5_size RX5 2 (some .int) 6 90 1 6 ∧ ∀ x ∈ K.2.2.2.2.2.2.2.2.2.exceptionTable.toList, False := ⟨hK0, hex⟩
  have hK := hcx.1
  show zG K Z (zΩ Z) (zF K Z (zΩ Z) (zeX mkI)) 1 6 0 [(0, .ref (Z.2.2.1 + 1)), (1, .int (zi a1))] [] μ (f5_size a1 μ)
  unfold f5_size
  refine g_iload_n hK 1 rfl rfl d5_size_0 ?_
  refine g_case (fun hs0 => ?_) (fun hs0 => ?_)
  · refine g_tabIn hK (v := 0) (tgt := 40) ha1 hs0 (by decide) (by decide) rfl (by decide) d5_size_1 ?_
    refine g_aload_n hK 0 rfl rfl d5_size_40 ?_
    refine g_getM hK zfin_5 (fa_5_2 kc_1) q_283 (w := 0) (by decide) d5_size_41 (fun hm1 => ?_)
    refine g_getI hK zfin_0 (fa_0_1 hm1) q_133 d5_size_44 (fun hf1 => ?_)
    exact g_iret hK hf1 rfl rfl d5_size_47
  refine g_case (fun hs1 => ?_) (fun hs1 => ?_)
  · refine g_tabIn hK (v := 1) (tgt := 48) ha1 hs1 (by decide) (by decide) rfl (by decide) d5_size_1 ?_
    refine g_aload_n hK 0 rfl rfl d5_size_48 ?_
    refine g_getR hK zfin_5 (fa_5_7 kc_1) q_288 (r := 193) (by decide +kernel) d5_size_49 ?_
    refine g_getI hK zfin_3 (fa_3_1 kc_193) q_186 d5_size_52 (fun hf2 => ?_)
    exact g_iret hK hf2 rfl rfl d5_size_55
  refine g_case (fun hs2 => ?_) (fun hs2 => ?_)
  · refine g_tabIn hK (v := 2) (tgt := 56) ha1 hs2 (by decide) (by decide) rfl (by decide) d5_size_1 ?_
    refine g_aload_n hK 0 rfl rfl d5_size_56 ?_
    refine g_getR hK zfin_5 (fa_5_7 kc_1) q_288 (r := 193) (by decide +kernel) d5_size_57 ?_
    refine g_getI hK zfin_3 (fa_3_8 kc_193) q_200 d5_size_60 (fun hf3 => ?_)
    exact g_iret hK hf3 rfl rfl d5_size_63
  refine g_case (fun hs3 => ?_) (fun hs3 => ?_)
  · refine g_tabIn hK (v := 3) (tgt := 64) ha1 hs3 (by decide) (by decide) rfl (by decide) d5_size_1 ?_
    refine g_aload_n hK 0 rfl rfl d5_size_64 ?_
    refine g_getR hK zfin_5 (fa_5_7 kc_1) q_288 (r := 193) (by decide +kernel) d5_size_65 ?_
    refine g_getI hK zfin_3 (fa_3_0 kc_193) q_184 d5_size_68 (fun hf4 => ?_)
    refine g_if_eq hK hf4 (tgt := 78) (by decide) d5_size_71 (fun _ => ?_) (fun _ => ?_)
    · refine g_iconst hK d5_size_78 zki0 ?_
      exact g_iret hK zc0 rfl rfl d5_size_79
    · refine g_iconst hK d5_size_74 zki1 ?_
      refine g_goto hK (tgt := 79) (by decide) d5_size_75 ?_
      exact g_iret hK zc1 rfl rfl d5_size_79
  refine g_case (fun hs4 => ?_) (fun hs4 => ?_)
  · refine g_tabIn hK (v := 4) (tgt := 80) ha1 hs4 (by decide) (by decide) rfl (by decide) d5_size_1 ?_
    refine g_aload_n hK 0 rfl rfl d5_size_80 ?_
    refine g_getI hK zfin_5 (fa_5_1 kc_1) q_282 d5_size_81 (fun hf5 => ?_)
    exact g_iret hK hf5 rfl rfl d5_size_84
  refine g_case (fun hs5 => ?_) (fun hs5 => ?_)
  · refine g_tabIn hK (v := 5) (tgt := 85) ha1 hs5 (by decide) (by decide) rfl (by decide) d5_size_1 ?_
    refine g_aload_n hK 0 rfl rfl d5_size_85 ?_
    refine g_getI hK zfin_5 (fa_5_10 kc_1) q_291 d5_size_86 (fun hf6 => ?_)
    exact g_iret hK hf6 rfl rfl d5_size_89
  refine g_tabOut hK (tgt := 90) ha1 (by omega) (by decide) d5_size_1 ?_
  exact g_throw hK (i9 := 5) hex rfl (by decide) q_790 q_18 rfl th_5_123 th_5_123_g119 d5_size_90 d5_size_93 d5_size_94 d5_size_96 d5_size_99 (by decide) (Nat.le_of_ble_eq_true rfl) (by decide) (by decide)
set_option maxRecDepth 20000 in
theorem p5_requireSnippet_15 {K : zK} {Z : zZ} (hcx : zOk K Z b5_requireSnippet RX5 2 (some (.object RX2)) 6 90 1 6 ∧ ∀ x ∈ K.2.2.2.2.2.2.2.2.2.exceptionTable.toList, False) (a1 : Int) (ha1 : zr a1) (μ : zM) : zG K Z (zΩ Z) (zF K Z (zΩ Z) (zeX (mkR Z.2.2.1 2))) 1 6 15 [] [] μ (f5_requireSnippet_15 a1 μ) := by
  obtain ⟨hK, hex⟩ := id hcx
  unfold f5_requireSnippet_15
  exact g_throwW hK (i9 := 6) hex rfl (by decide) q_818 q_19 rfl th_5_162 th_5_162_g158 d5_requireSnippet_15 d5_requireSnippet_18 d5_requireSnippet_19 d5_requireSnippet_22 d5_requireSnippet_25 (by decide) (Nat.le_of_ble_eq_true rfl) (by decide) (by decide)
set_option maxRecDepth 20000 in
theorem c5_requireSnippet (l : Launch) (hst : l.stackTraces = false) (Z : zZ) (a1 : Int) (μ : zM) (ha1 : zr a1) : ∀ x, f5_requireSnippet a1 μ = some x → zCt l Z (zΩ Z) y5_requireSnippet (zws (.code y5_requireSnippet b5_requireSnippet 2 (some (.object RX2)))) rm5_requireSnippet [.ref (Z.2.2.1 + 1), .int (zi a1)] μ (zeX (mkR Z.2.2.1 2) x) := by
  intro x h
  refine zCt.of (enc := (zeX (mkR Z.2.2.1 2))) h (by decide) hst (Nat.le_of_ble_eq_true rfl) (fun K hK0 hex hl _ => ?_)
  subst hl
  have hcx : zOk K Z b5_requireSnippet RX5 2 (some (.object RX2)) 6 90 1 6 ∧ ∀ x ∈ K.2.2.2.2.2.2.2.2.2.exceptionTable.toList, False := ⟨hK0, hex⟩
  have hK := hcx.1
  show zG K Z (zΩ Z) (zF K Z (zΩ Z) (zeX (mkR Z.2.2.1 2))) 1 6 0 [(0, .ref (Z.2.2.1 + 1)), (1, .int (zi a1))] [] μ (f5_requireSnippet a1 μ)
  unfold f5_requireSnippet
  refine g_iload_n hK 1 rfl rfl d5_requireSnippet_0 ?_
  refine g_if_lt hK ha1 (tgt := 15) (by decide) d5_requireSnippet_1 (fun _ => ?_) (fun _ => ?_)
  · refine g_lv (lv2 := []) [] rfl ?_
    exact p5_requireSnippet_15 hcx a1 ha1   μ 
  · refine g_iload_n hK 1 rfl rfl d5_requireSnippet_4 ?_
    refine g_aload_n hK 0 rfl rfl d5_requireSnippet_5 ?_
    refine g_getM hK zfin_5 (fa_5_2 kc_1) q_283 (w := 0) (by decide) d5_requireSnippet_6 (fun hm1 => ?_)
    refine g_getI hK zfin_0 (fa_0_1 hm1) q_133 d5_requireSnippet_9 (fun hf1 => ?_)
    refine g_icmp_lt hK ha1 hf1 (tgt := 26) (by decide) d5_requireSnippet_12 (fun _ => ?_) (fun _ => ?_)
    · refine g_aload_n hK 0 rfl rfl d5_requireSnippet_26 ?_
      refine g_getM hK zfin_5 (fa_5_2 kc_1) q_283 (w := 0) (by decide) d5_requireSnippet_27 (fun hm2 => ?_)
      refine g_getR hK zfin_0 (fa_0_0 hm2) q_130 (pt_0_snippets hm2) d5_requireSnippet_30 ?_
      refine g_iload_n hK 1 rfl rfl d5_requireSnippet_33 ?_
      refine g_aald105 hK (g := fun i => (((zR μ 1 2) + 4) + 11 * i)) (pt_0_snippets_k hm2) (zlib_el hm2) d5_requireSnippet_34 (fun hz1 => ?_)
      have he1 : zkd (((zR μ 1 2) + 4) + 11 * (zx a1)) = 2 := (zlib_ek hm2) _ (zx_lt hz1)
      exact g_aret hK he1 rfl rfl d5_requireSnippet_35
    · refine g_lv (lv2 := []) [] rfl ?_
      exact p5_requireSnippet_15 hcx a1 ha1   μ 
set_option maxRecDepth 20000 in
theorem c5_snippet (l : Launch) (hst : l.stackTraces = false) (Z : zZ) (a1 : Int) (a2 : Int) (μ : zM) (ha1 : zr a1) (ha2 : zr a2) : ∀ x, f5_snippet a1 a2 μ = some x → zCt l Z (zΩ Z) y5_snippet (zws (.code y5_snippet b5_snippet 4 (some .int))) rm5_snippet [.ref (Z.2.2.1 + 1), .int (zi a1), .int (zi a2)] μ (zeX mkI x) := by
  intro x h
  refine zCt.of (enc := (zeX mkI)) h (by decide) hst (Nat.le_of_ble_eq_true rfl) (fun K hK0 hex hl _ => ?_)
  subst hl
  have hcx : zOk K Z b5_snippet RX5 4 (some .int) 7 111 2 12 ∧ ∀ x ∈ K.2.2.2.2.2.2.2.2.2.exceptionTable.toList, False := ⟨hK0, hex⟩
  have hK := hcx.1
  show zG K Z (zΩ Z) (zF K Z (zΩ Z) (zeX mkI)) 2 12 0 [(0, .ref (Z.2.2.1 + 1)), (1, .int (zi a1)), (2, .int (zi a2))] [] μ (f5_snippet a1 a2 μ)
  unfold f5_snippet
  refine g_aload_n hK 0 rfl rfl d5_snippet_0 ?_
  refine g_iload_n hK 1 rfl rfl d5_snippet_1 ?_
  refine g_callVcx (mk2 := mkI) hK (mk := (mkR Z.2.2.1 2)) (rm := rm5_requireSnippet) (cb := 1) (sb := 6) hex (As := [.int (zi a1)]) (b := 1) (n := 1) (c5_requireSnippet K.2.1 hK.2.2.2.2.2.2.2.2.1 Z a1 μ ha1) rfl (ci := 5) rfl (by decide) kc_1 q_814 q_816 qs_5_requireSnippet q_1 q_817 rfl (by decide +kernel) (by decide) (Nat.le_of_ble_eq_true rfl) (Nat.le_of_ble_eq_true rfl) (Nat.le_of_ble_eq_true rfl) rfl d5_snippet_2 (fun r1 m1 hr1 hpr1 => ?_)
  refine g_astore_n hK (lv2 := [(0, .ref (Z.2.2.1 + 1)), (1, .int (zi a1)), (2, .int (zi a2)), (3, .ref (Z.2.2.1 + r1))]) [1, 2, 3, 0] rfl rfl (by decide) d5_snippet_5 ?_
  refine g_iload_n hK 2 rfl rfl d5_snippet_6 ?_
  refine g_case (fun hs0 => ?_) (fun hs0 => ?_)
  · refine g_tabIn hK (v := 0) (tgt := 44) ha2 hs0 (by decide) (by decide) rfl (by decide) d5_snippet_7 ?_
    refine g_aload_n hK 3 rfl rfl d5_snippet_44 ?_
    refine g_getI hK zfin_2 (fa_2_1 hpr1) q_49 d5_snippet_45 (fun hf1 => ?_)
    exact g_iret hK hf1 rfl rfl d5_snippet_48
  refine g_case (fun hs1 => ?_) (fun hs1 => ?_)
  · refine g_tabIn hK (v := 1) (tgt := 49) ha2 hs1 (by decide) (by decide) rfl (by decide) d5_snippet_7 ?_
    refine g_aload_n hK 3 rfl rfl d5_snippet_49 ?_
    refine g_getI hK zfin_2 (fa_2_2 hpr1) q_51 d5_snippet_50 (fun hf2 => ?_)
    exact g_iret hK hf2 rfl rfl d5_snippet_53
  refine g_case (fun hs2 => ?_) (fun hs2 => ?_)
  · refine g_tabIn hK (v := 2) (tgt := 54) ha2 hs2 (by decide) (by decide) rfl (by decide) d5_snippet_7 ?_
    refine g_aload_n hK 3 rfl rfl d5_snippet_54 ?_
    refine g_getI hK zfin_2 (fa_2_3 hpr1) q_55 d5_snippet_55 (fun hf3 => ?_)
    exact g_iret hK hf3 rfl rfl d5_snippet_58
  refine g_case (fun hs3 => ?_) (fun hs3 => ?_)
  · refine g_tabIn hK (v := 3) (tgt := 59) ha2 hs3 (by decide) (by decide) rfl (by decide) d5_snippet_7 ?_
    refine g_aload_n hK 3 rfl rfl d5_snippet_59 ?_
    refine g_callVco hK (mk := mkI) (rm := rm2_deepest) (cb := 1) (sb := 6) (As := []) (b := r1) (n := 0) (c2_deepest K.2.1 hK.2.2.2.2.2.2.2.2.1 Z r1 m1 hpr1) rfl (ci := 2) rfl (by decide) hpr1 q_834 q_835 q_836 q_3 q_837 rfl (by decide +kernel) (by decide) (Nat.le_of_ble_eq_true rfl) (Nat.le_of_ble_eq_true rfl) (Nat.le_of_ble_eq_true rfl) rfl d5_snippet_60 (fun r2 hr2 hpr2 => ?_)
    exact g_iret hK hpr2 rfl rfl d5_snippet_63
  refine g_case (fun hs4 => ?_) (fun hs4 => ?_)
  · refine g_tabIn hK (v := 4) (tgt := 64) ha2 hs4 (by decide) (by decide) rfl (by decide) d5_snippet_7 ?_
    refine g_aload_n hK 3 rfl rfl d5_snippet_64 ?_
    refine g_callVco hK (mk := mkI) (rm := rm2_countDefaults) (cb := 1) (sb := 6) (As := []) (b := r1) (n := 0) (c2_countDefaults K.2.1 hK.2.2.2.2.2.2.2.2.1 Z r1 m1 hpr1) rfl (ci := 2) rfl (by decide) hpr1 q_841 q_842 q_843 q_3 q_844 rfl (by decide +kernel) (by decide) (Nat.le_of_ble_eq_true rfl) (Nat.le_of_ble_eq_true rfl) (Nat.le_of_ble_eq_true rfl) rfl d5_snippet_65 (fun r3 hr3 hpr3 => ?_)
    exact g_iret hK hpr3 rfl rfl d5_snippet_68
  refine g_case (fun hs5 => ?_) (fun hs5 => ?_)
  · refine g_tabIn hK (v := 5) (tgt := 69) ha2 hs5 (by decide) (by decide) rfl (by decide) d5_snippet_7 ?_
    refine g_aload_n hK 3 rfl rfl d5_snippet_69 ?_
    refine g_callVco hK (mk := mkI) (rm := rm2_countLiterals) (cb := 1) (sb := 6) (As := []) (b := r1) (n := 0) (c2_countLiterals K.2.1 hK.2.2.2.2.2.2.2.2.1 Z r1 m1 hpr1) rfl (ci := 2) rfl (by decide) hpr1 q_845 q_846 q_847 q_3 q_848 rfl (by decide +kernel) (by decide) (Nat.le_of_ble_eq_true rfl) (Nat.le_of_ble_eq_true rfl) (Nat.le_of_ble_eq_true rfl) rfl d5_snippet_70 (fun r4 hr4 hpr4 => ?_)
    exact g_iret hK hpr4 rfl rfl d5_snippet_73
  refine g_tabOut hK (tgt := 74) ha2 (by omega) (by decide) d5_snippet_7 ?_
  exact g_throw hK (i9 := 5) hex rfl (by decide) q_790 q_18 rfl th_5_123 th_5_123_g119 d5_snippet_74 d5_snippet_77 d5_snippet_78 d5_snippet_80 d5_snippet_83 (by decide) (Nat.le_of_ble_eq_true rfl) (by decide) (by decide)
set_option maxRecDepth 20000 in
theorem c5_letter (l : Launch) (hst : l.stackTraces = false) (Z : zZ) (a1 : Int) (a2 : Int) (μ : zM) (ha1 : zr a1) (ha2 : zr a2) : ∀ x, f5_letter a1 a2 μ = some x → zCt l Z (zΩ Z) y5_letter (zws (.code y5_letter b5_letter 4 (some .int))) rm5_letter [.ref (Z.2.2.1 + 1), .int (zi a1), .int (zi a2)] μ (zeX mkI x) := by
  intro x h
  refine zCt.of (enc := (zeX mkI)) h (by decide) hst (Nat.le_of_ble_eq_true rfl) (fun K hK0 hex hl _ => ?_)
  subst hl
  have hcx : zOk K Z b5_letter RX5 4 (some .int) 7 111 1 6 ∧ ∀ x ∈ K.2.2.2.2.2.2.2.2.2.exceptionTable.toList, False := ⟨hK0, hex⟩
  have hK := hcx.1
  show zG K Z (zΩ Z) (zF K Z (zΩ Z) (zeX mkI)) 1 6 0 [(0, .ref (Z.2.2.1 + 1)), (1, .int (zi a1)), (2, .int (zi a2))] [] μ (f5_letter a1 a2 μ)
  unfold f5_letter
  refine g_aload_n hK 0 rfl rfl d5_letter_0 ?_
  refine g_iload_n hK 1 rfl rfl d5_letter_1 ?_
  refine g_callVcx (mk2 := mkI) hK (mk := (mkR Z.2.2.1 2)) (rm := rm5_requireSnippet) (cb := 0) (sb := 0) hex (As := [.int (zi a1)]) (b := 1) (n := 1) (c5_requireSnippet K.2.1 hK.2.2.2.2.2.2.2.2.1 Z a1 μ ha1) rfl (ci := 5) rfl (by decide) kc_1 q_814 q_816 qs_5_requireSnippet q_1 q_817 rfl (by decide +kernel) (by decide) (Nat.le_of_ble_eq_true rfl) (Nat.le_of_ble_eq_true rfl) (Nat.le_of_ble_eq_true rfl) rfl d5_letter_2 (fun r1 m1 hr1 hpr1 => ?_)
  refine g_astore_n hK (lv2 := [(0, .ref (Z.2.2.1 + 1)), (1, .int (zi a1)), (2, .int (zi a2)), (3, .ref (Z.2.2.1 + r1))]) [1, 2, 3, 0] rfl rfl (by decide) d5_letter_5 ?_
  refine g_iload_n hK 2 rfl rfl d5_letter_6 ?_
  refine g_if_lt hK ha2 (tgt := 27) (by decide) d5_letter_7 (fun _ => ?_) (fun _ => ?_)
  · refine g_iconst hK d5_letter_27 zkim1 ?_
    exact g_iret hK zcm1 rfl rfl d5_letter_28
  · refine g_iload_n hK 2 rfl rfl d5_letter_10 ?_
    refine g_aload_n hK 3 rfl rfl d5_letter_11 ?_
    refine g_getI hK zfin_2 (fa_2_1 hpr1) q_49 d5_letter_12 (fun hf1 => ?_)
    refine g_icmp_ge hK ha2 hf1 (tgt := 27) (by decide) d5_letter_15 (fun _ => ?_) (fun _ => ?_)
    · refine g_iconst hK d5_letter_27 zkim1 ?_
      exact g_iret hK zcm1 rfl rfl d5_letter_28
    · refine g_aload_n hK 3 rfl rfl d5_letter_18 ?_
      refine g_getR hK zfin_2 (fa_2_0 hpr1) q_47 (pt_2_name hpr1) d5_letter_19 ?_
      refine g_iload_n hK 2 rfl rfl d5_letter_22 ?_
      refine g_iald hK (pt_2_name_k hpr1) d5_letter_23 (fun _ hl1 => ?_)
      refine g_goto hK (tgt := 28) (by decide) d5_letter_24 ?_
      exact g_iret hK hl1 rfl rfl d5_letter_28
set_option maxRecDepth 20000 in
theorem p5_requireField_10 {K : zK} {Z : zZ} (hcx : zOk K Z b5_requireField RX5 1 (none) 6 90 1 6 ∧ ∀ x ∈ K.2.2.2.2.2.2.2.2.2.exceptionTable.toList, False) (a1 : Int) (ha1 : zr a1) (μ : zM) : zG K Z (zΩ Z) (zF K Z (zΩ Z) (zeX mkV)) 1 6 10 [] [] μ (f5_requireField_10 a1 μ) := by
  obtain ⟨hK, hex⟩ := id hcx
  unfold f5_requireField_10
  exact g_throwW hK (i9 := 7) hex rfl (by decide) q_818 q_19 rfl th_5_162 th_5_162_g158 d5_requireField_10 d5_requireField_13 d5_requireField_14 d5_requireField_17 d5_requireField_20 (by decide) (Nat.le_of_ble_eq_true rfl) (by decide) (by decide)
set_option maxRecDepth 20000 in
theorem c5_requireField (l : Launch) (hst : l.stackTraces = false) (Z : zZ) (a1 : Int) (μ : zM) (ha1 : zr a1) : ∀ x, f5_requireField a1 μ = some x → zCt l Z (zΩ Z) y5_requireField (zws (.code y5_requireField b5_requireField 1 (none))) rm5_requireField [.int (zi a1)] μ (zeX mkV x) := by
  intro x h
  refine zCt.of (enc := (zeX mkV)) h (by decide) hst (Nat.le_of_ble_eq_true rfl) (fun K hK0 hex hl _ => ?_)
  subst hl
  have hcx : zOk K Z b5_requireField RX5 1 (none) 6 90 1 6 ∧ ∀ x ∈ K.2.2.2.2.2.2.2.2.2.exceptionTable.toList, False := ⟨hK0, hex⟩
  have hK := hcx.1
  show zG K Z (zΩ Z) (zF K Z (zΩ Z) (zeX mkV)) 1 6 0 [(0, .int (zi a1))] [] μ (f5_requireField a1 μ)
  unfold f5_requireField
  refine g_iload_n hK 0 rfl rfl d5_requireField_0 ?_
  refine g_if_lt hK ha1 (tgt := 10) (by decide) d5_requireField_1 (fun _ => ?_) (fun _ => ?_)
  · refine g_lv (lv2 := []) [] rfl ?_
    exact p5_requireField_10 hcx a1 ha1   μ 
  · refine g_iload_n hK 0 rfl rfl d5_requireField_4 ?_
    refine g_bipush hK d5_requireField_5 zkb10 ?_
    refine g_icmp_lt hK ha1 zc10 (tgt := 21) (by decide) d5_requireField_7 (fun _ => ?_) (fun _ => ?_)
    · exact g_vret hK rfl rfl d5_requireField_21
    · refine g_lv (lv2 := []) [] rfl ?_
      exact p5_requireField_10 hcx a1 ha1   μ 
set_option maxRecDepth 20000 in
theorem c5_depends (l : Launch) (hst : l.stackTraces = false) (Z : zZ) (a1 : Int) (a2 : Int) (μ : zM) (ha1 : zr a1) (ha2 : zr a2) : ∀ x, f5_depends a1 a2 μ = some x → zCt l Z (zΩ Z) y5_depends (zws (.code y5_depends b5_depends 4 (some .int))) rm5_depends [.ref (Z.2.2.1 + 1), .int (zi a1), .int (zi a2)] μ (zeX mkI x) := by
  intro x h
  refine zCt.of (enc := (zeX mkI)) h (by decide) hst (Nat.le_of_ble_eq_true rfl) (fun K hK0 hex hl _ => ?_)
  subst hl
  have hcx : zOk K Z b5_depends RX5 4 (some .int) 7 111 2 12 ∧ ∀ x ∈ K.2.2.2.2.2.2.2.2.2.exceptionTable.toList, False := ⟨hK0, hex⟩
  have hK := hcx.1
  show zG K Z (zΩ Z) (zF K Z (zΩ Z) (zeX mkI)) 2 12 0 [(0, .ref (Z.2.2.1 + 1)), (1, .int (zi a1)), (2, .int (zi a2))] [] μ (f5_depends a1 a2 μ)
  unfold f5_depends
  refine g_aload_n hK 0 rfl rfl d5_depends_0 ?_
  refine g_iload_n hK 1 rfl rfl d5_depends_1 ?_
  refine g_callVcx (mk2 := mkI) hK (mk := (mkR Z.2.2.1 2)) (rm := rm5_requireSnippet) (cb := 1) (sb := 6) hex (As := [.int (zi a1)]) (b := 1) (n := 1) (c5_requireSnippet K.2.1 hK.2.2.2.2.2.2.2.2.1 Z a1 μ ha1) rfl (ci := 5) rfl (by decide) kc_1 q_814 q_816 qs_5_requireSnippet q_1 q_817 rfl (by decide +kernel) (by decide) (Nat.le_of_ble_eq_true rfl) (Nat.le_of_ble_eq_true rfl) (Nat.le_of_ble_eq_true rfl) rfl d5_depends_2 (fun r1 m1 hr1 hpr1 => ?_)
  refine g_astore_n hK (lv2 := [(0, .ref (Z.2.2.1 + 1)), (1, .int (zi a1)), (2, .int (zi a2)), (3, .ref (Z.2.2.1 + r1))]) [1, 2, 3, 0] rfl rfl (by decide) d5_depends_5 ?_
  refine g_iload_n hK 2 rfl rfl d5_depends_6 ?_
  refine g_callScx (mk2 := mkI) hK (mk := mkV) (rm := rm5_requireField) (cb := 0) (sb := 0) hex (As := [.int (zi a2)]) (n := 1) (c5_requireField K.2.1 hK.2.2.2.2.2.2.2.2.1 Z a2 m1 ha2) q_863 q_864 q_1 q_865 rfl (by decide +kernel) (by decide) (Nat.le_of_ble_eq_true rfl) (Nat.le_of_ble_eq_true rfl) (Nat.le_of_ble_eq_true rfl) rfl d5_depends_7 (fun r2 m2 hr2 hpr2 => ?_)
  refine g_aload_n hK 3 rfl rfl d5_depends_10 ?_
  refine g_getR hK zfin_2 (fa_2_9 hpr1) q_77 (pt_2_dependsOn hpr1) d5_depends_11 ?_
  refine g_iload_n hK 2 rfl rfl d5_depends_14 ?_
  refine g_iald hK (pt_2_dependsOn_k hpr1) d5_depends_15 (fun _ hl1 => ?_)
  exact g_iret hK hl1 rfl rfl d5_depends_16
set_option maxRecDepth 20000 in
theorem p5_document_15 {K : zK} {Z : zZ} (hcx : zOk K Z b5_document RX5 2 (some .int) 6 90 1 6 ∧ ∀ x ∈ K.2.2.2.2.2.2.2.2.2.exceptionTable.toList, False) (a1 : Int) (ha1 : zr a1) (μ : zM) : zG K Z (zΩ Z) (zF K Z (zΩ Z) (zeX mkI)) 1 6 15 [] [] μ (f5_document_15 a1 μ) := by
  obtain ⟨hK, hex⟩ := id hcx
  unfold f5_document_15
  exact g_throw hK (i9 := 8) hex rfl (by decide) q_818 q_19 rfl th_5_162 th_5_162_g158 d5_document_15 d5_document_18 d5_document_19 d5_document_21 d5_document_24 (by decide) (Nat.le_of_ble_eq_true rfl) (by decide) (by decide)
set_option maxRecDepth 20000 in
theorem c5_document (l : Launch) (hst : l.stackTraces = false) (Z : zZ) (a1 : Int) (μ : zM) (ha1 : zr a1) : ∀ x, f5_document a1 μ = some x → zCt l Z (zΩ Z) y5_document (zws (.code y5_document b5_document 2 (some .int))) rm5_document [.ref (Z.2.2.1 + 1), .int (zi a1)] μ (zeX mkI x) := by
  intro x h
  refine zCt.of (enc := (zeX mkI)) h (by decide) hst (Nat.le_of_ble_eq_true rfl) (fun K hK0 hex hl _ => ?_)
  subst hl
  have hcx : zOk K Z b5_document RX5 2 (some .int) 6 90 1 6 ∧ ∀ x ∈ K.2.2.2.2.2.2.2.2.2.exceptionTable.toList, False := ⟨hK0, hex⟩
  have hK := hcx.1
  show zG K Z (zΩ Z) (zF K Z (zΩ Z) (zeX mkI)) 1 6 0 [(0, .ref (Z.2.2.1 + 1)), (1, .int (zi a1))] [] μ (f5_document a1 μ)
  unfold f5_document
  refine g_iload_n hK 1 rfl rfl d5_document_0 ?_
  refine g_if_lt hK ha1 (tgt := 15) (by decide) d5_document_1 (fun _ => ?_) (fun _ => ?_)
  · refine g_lv (lv2 := []) [] rfl ?_
    exact p5_document_15 hcx a1 ha1   μ 
  · refine g_iload_n hK 1 rfl rfl d5_document_4 ?_
    refine g_aload_n hK 0 rfl rfl d5_document_5 ?_
    refine g_getR hK zfin_5 (fa_5_7 kc_1) q_288 (r := 193) (by decide +kernel) d5_document_6 ?_
    refine g_getI hK zfin_3 (fa_3_8 kc_193) q_200 d5_document_9 (fun hf1 => ?_)
    refine g_icmp_lt hK ha1 hf1 (tgt := 25) (by decide) d5_document_12 (fun _ => ?_) (fun _ => ?_)
    · refine g_aload_n hK 0 rfl rfl d5_document_25 ?_
      refine g_getR hK zfin_5 (fa_5_7 kc_1) q_288 (r := 193) (by decide +kernel) d5_document_26 ?_
      refine g_getR hK zfin_3 (fa_3_7 kc_193) q_198 (r := 199) (by decide +kernel) d5_document_29 ?_
      refine g_iload_n hK 1 rfl rfl d5_document_32 ?_
      refine g_iald hK kc_199 d5_document_33 (fun _ hl1 => ?_)
      exact g_iret hK hl1 rfl rfl d5_document_34
    · refine g_lv (lv2 := []) [] rfl ?_
      exact p5_document_15 hcx a1 ha1   μ 
set_option maxRecDepth 20000 in
theorem c5_takeSession (l : Launch) (hst : l.stackTraces = false) (Z : zZ) (a1 : Int) (μ : zM) (ha1 : zr a1) : ∀ x, f5_takeSession a1 μ = some x → zCt l Z (zΩ Z) y5_takeSession (zws (.code y5_takeSession b5_takeSession 2 (none))) rm5_takeSession [.ref (Z.2.2.1 + 1), .int (zi a1)] μ (zeM x) := by
  intro x h
  refine zCt.of (enc := zeM) h (by decide) hst (Nat.le_of_ble_eq_true rfl) (fun K hK0 hex hl _ => ?_)
  subst hl
  have hcx : zOk K Z b5_takeSession RX5 2 (none) 2 86 0 0 ∧ ∀ x ∈ K.2.2.2.2.2.2.2.2.2.exceptionTable.toList, False := ⟨hK0, hex⟩
  have hK := hcx.1
  show zG K Z (zΩ Z) (zF K Z (zΩ Z) zeM) 0 0 0 [(0, .ref (Z.2.2.1 + 1)), (1, .int (zi a1))] [] μ (f5_takeSession a1 μ)
  unfold f5_takeSession
  refine g_aload_n hK 0 rfl rfl d5_takeSession_0 ?_
  refine g_getR hK zfin_5 (fa_5_13 kc_1) q_294 (r := 200) (by decide +kernel) d5_takeSession_1 ?_
  refine g_aload_n hK 0 rfl rfl d5_takeSession_4 ?_
  refine g_getM hK zfin_5 (fa_5_2 kc_1) q_283 (w := 0) (by decide) d5_takeSession_5 (fun hm1 => ?_)
  refine g_getR hK zfin_0 (fa_0_0 hm1) q_130 (pt_0_snippets hm1) d5_takeSession_8 ?_
  refine g_aload_n hK 0 rfl rfl d5_takeSession_11 ?_
  refine g_getR hK zfin_5 (fa_5_7 kc_1) q_288 (r := 193) (by decide +kernel) d5_takeSession_12 ?_
  refine g_getR hK zfin_3 (fa_3_2 kc_193) q_188 (r := 194) (by decide +kernel) d5_takeSession_15 ?_
  refine g_iload_n hK 1 rfl rfl d5_takeSession_18 ?_
  refine g_iald hK kc_194 d5_takeSession_19 (fun _ hl1 => ?_)
  refine g_aald105 hK (g := fun i => (((zR μ 1 2) + 4) + 11 * i)) (pt_0_snippets_k hm1) (zlib_el hm1) d5_takeSession_20 (fun hz1 => ?_)
  have he1 : zkd (((zR μ 1 2) + 4) + 11 * (zx (zI μ 194 (zx a1)))) = 2 := (zlib_ek hm1) _ (zx_lt hz1)
  refine g_aload_n hK 0 rfl rfl d5_takeSession_21 ?_
  refine g_getR hK zfin_5 (fa_5_7 kc_1) q_288 (r := 193) (by decide +kernel) d5_takeSession_22 ?_
  refine g_iload_n hK 1 rfl rfl d5_takeSession_25 ?_
  refine g_callVcm hK (rm := rm4_take) (cb := 0) (sb := 0) (As := [.ref (Z.2.2.1 + (((zR μ 1 2) + 4) + 11 * (zx (zI μ 194 (zx a1))))), .ref (Z.2.2.1 + 193), .int (zi a1)]) (b := 200) (n := 3) (c4_take K.2.1 hK.2.2.2.2.2.2.2.2.1 Z (((zR μ 1 2) + 4) + 11 * (zx (zI μ 194 (zx a1)))) 193 a1 μ he1 kc_193 ha1) rfl (ci := 4) rfl (by decide) kc_200 q_521 q_522 q_523 q_6 q_524 rfl (by decide +kernel) (by decide) (Nat.le_of_ble_eq_true rfl) (Nat.le_of_ble_eq_true rfl) (Nat.le_of_ble_eq_true rfl) rfl d5_takeSession_26 (fun m1 hm1 => ?_)
  exact g_vret hK rfl rfl d5_takeSession_29
set_option maxRecDepth 20000 in
theorem c5_measuredText (l : Launch) (hst : l.stackTraces = false) (Z : zZ) (a1 : Int) (μ : zM) (ha1 : zr a1) : ∀ x, f5_measuredText a1 μ = some x → zCt l Z (zΩ Z) y5_measuredText (zws (.code y5_measuredText b5_measuredText 2 (some .long))) rm5_measuredText [.ref (Z.2.2.1 + 1), .int (zi a1)] μ (ze2 mkL x) := by
  intro x h
  refine zCt.of (enc := (ze2 mkL)) h (by decide) hst (Nat.le_of_ble_eq_true rfl) (fun K hK0 hex hl _ => ?_)
  subst hl
  have hcx : zOk K Z b5_measuredText RX5 2 (some .long) 4 107 0 0 ∧ ∀ x ∈ K.2.2.2.2.2.2.2.2.2.exceptionTable.toList, False := ⟨hK0, hex⟩
  have hK := hcx.1
  show zG K Z (zΩ Z) (zF K Z (zΩ Z) (ze2 mkL)) 0 0 0 [(0, .ref (Z.2.2.1 + 1)), (1, .int (zi a1))] [] μ (f5_measuredText a1 μ)
  unfold f5_measuredText
  refine g_aload_n hK 0 rfl rfl d5_measuredText_0 ?_
  refine g_iload_n hK 1 rfl rfl d5_measuredText_1 ?_
  refine g_callVcm hK (rm := rm5_takeSession) (cb := 0) (sb := 0) (As := [.int (zi a1)]) (b := 1) (n := 1) (c5_takeSession K.2.1 hK.2.2.2.2.2.2.2.2.1 Z a1 μ ha1) rfl (ci := 5) rfl (by decide) kc_1 q_517 q_519 qs_5_takeSession q_1 q_520 rfl (by decide +kernel) (by decide) (Nat.le_of_ble_eq_true rfl) (Nat.le_of_ble_eq_true rfl) (Nat.le_of_ble_eq_true rfl) rfl d5_measuredText_2 (fun m1 hm1 => ?_)
  refine g_aload_n hK 0 rfl rfl d5_measuredText_5 ?_
  refine g_getR hK zfin_5 (fa_5_13 kc_1) q_294 (r := 200) (by decide +kernel) d5_measuredText_6 ?_
  refine g_callVcm hK (rm := rm4_measure) (cb := 0) (sb := 0) (As := []) (b := 200) (n := 0) (c4_measure K.2.1 hK.2.2.2.2.2.2.2.2.1 Z  m1 ) rfl (ci := 4) rfl (by decide) kc_200 q_532 q_533 q_534 q_6 q_535 rfl (by decide +kernel) (by decide) (Nat.le_of_ble_eq_true rfl) (Nat.le_of_ble_eq_true rfl) (Nat.le_of_ble_eq_true rfl) rfl d5_measuredText_9 (fun m2 hm2 => ?_)
  refine g_aload_n hK 0 rfl rfl d5_measuredText_12 ?_
  refine g_getR hK zfin_5 (fa_5_13 kc_1) q_294 (r := 200) (by decide +kernel) d5_measuredText_13 ?_
  refine g_getL hK zfin_4 (fa_4_8 kc_200) q_244 d5_measuredText_16 (fun hf1 => ?_)
  exact g_lret hK hf1 rfl rfl d5_measuredText_19
set_option maxRecDepth 20000 in
theorem c5_liveFields (l : Launch) (hst : l.stackTraces = false) (Z : zZ) (a1 : Int) (μ : zM) (ha1 : zr a1) : ∀ x, f5_liveFields a1 μ = some x → zCt l Z (zΩ Z) y5_liveFields (zws (.code y5_liveFields b5_liveFields 2 (some .int))) rm5_liveFields [.ref (Z.2.2.1 + 1), .int (zi a1)] μ (ze2 mkI x) := by
  intro x h
  refine zCt.of (enc := (ze2 mkI)) h (by decide) hst (Nat.le_of_ble_eq_true rfl) (fun K hK0 hex hl _ => ?_)
  subst hl
  have hcx : zOk K Z b5_liveFields RX5 2 (some .int) 4 107 0 0 ∧ ∀ x ∈ K.2.2.2.2.2.2.2.2.2.exceptionTable.toList, False := ⟨hK0, hex⟩
  have hK := hcx.1
  show zG K Z (zΩ Z) (zF K Z (zΩ Z) (ze2 mkI)) 0 0 0 [(0, .ref (Z.2.2.1 + 1)), (1, .int (zi a1))] [] μ (f5_liveFields a1 μ)
  unfold f5_liveFields
  refine g_aload_n hK 0 rfl rfl d5_liveFields_0 ?_
  refine g_iload_n hK 1 rfl rfl d5_liveFields_1 ?_
  refine g_callVcm hK (rm := rm5_takeSession) (cb := 0) (sb := 0) (As := [.int (zi a1)]) (b := 1) (n := 1) (c5_takeSession K.2.1 hK.2.2.2.2.2.2.2.2.1 Z a1 μ ha1) rfl (ci := 5) rfl (by decide) kc_1 q_517 q_519 qs_5_takeSession q_1 q_520 rfl (by decide +kernel) (by decide) (Nat.le_of_ble_eq_true rfl) (Nat.le_of_ble_eq_true rfl) (Nat.le_of_ble_eq_true rfl) rfl d5_liveFields_2 (fun m1 hm1 => ?_)
  refine g_aload_n hK 0 rfl rfl d5_liveFields_5 ?_
  refine g_getR hK zfin_5 (fa_5_13 kc_1) q_294 (r := 200) (by decide +kernel) d5_liveFields_6 ?_
  refine g_callVcm hK (rm := rm4_measure) (cb := 0) (sb := 0) (As := []) (b := 200) (n := 0) (c4_measure K.2.1 hK.2.2.2.2.2.2.2.2.1 Z  m1 ) rfl (ci := 4) rfl (by decide) kc_200 q_532 q_533 q_534 q_6 q_535 rfl (by decide +kernel) (by decide) (Nat.le_of_ble_eq_true rfl) (Nat.le_of_ble_eq_true rfl) (Nat.le_of_ble_eq_true rfl) rfl d5_liveFields_9 (fun m2 hm2 => ?_)
  refine g_aload_n hK 0 rfl rfl d5_liveFields_12 ?_
  refine g_getR hK zfin_5 (fa_5_13 kc_1) q_294 (r := 200) (by decide +kernel) d5_liveFields_13 ?_
  refine g_getI hK zfin_4 (fa_4_3 kc_200) q_234 d5_liveFields_16 (fun hf1 => ?_)
  exact g_iret hK hf1 rfl rfl d5_liveFields_19
set_option maxRecDepth 20000 in
theorem p5_session_15 {K : zK} {Z : zZ} (hcx : zOk K Z b5_session RX5 3 (some .int) 6 128 1 6 ∧ ∀ x ∈ K.2.2.2.2.2.2.2.2.2.exceptionTable.toList, False) (a1 : Int) (a2 : Int) (ha1 : zr a1) (ha2 : zr a2) (μ : zM) : zG K Z (zΩ Z) (zF K Z (zΩ Z) (zeX mkI)) 1 6 15 [] [] μ (f5_session_15 a1 a2 μ) := by
  obtain ⟨hK, hex⟩ := id hcx
  unfold f5_session_15
  exact g_throw hK (i9 := 9) hex rfl (by decide) q_818 q_19 rfl th_5_162 th_5_162_g158 d5_session_15 d5_session_18 d5_session_19 d5_session_21 d5_session_24 (by decide) (Nat.le_of_ble_eq_true rfl) (by decide) (by decide)
set_option maxRecDepth 20000 in
theorem c5_session (l : Launch) (hst : l.stackTraces = false) (Z : zZ) (a1 : Int) (a2 : Int) (μ : zM) (ha1 : zr a1) (ha2 : zr a2) : ∀ x, f5_session a1 a2 μ = some x → zCt l Z (zΩ Z) y5_session (zws (.code y5_session b5_session 3 (some .int))) rm5_session [.ref (Z.2.2.1 + 1), .int (zi a1), .int (zi a2)] μ (zeX mkI x) := by
  intro x h
  refine zCt.of (enc := (zeX mkI)) h (by decide) hst (Nat.le_of_ble_eq_true rfl) (fun K hK0 hex hl _ => ?_)
  subst hl
  have hcx : zOk K Z b5_session RX5 3 (some .int) 6 128 1 6 ∧ ∀ x ∈ K.2.2.2.2.2.2.2.2.2.exceptionTable.toList, False := ⟨hK0, hex⟩
  have hK := hcx.1
  show zG K Z (zΩ Z) (zF K Z (zΩ Z) (zeX mkI)) 1 6 0 [(0, .ref (Z.2.2.1 + 1)), (1, .int (zi a1)), (2, .int (zi a2))] [] μ (f5_session a1 a2 μ)
  unfold f5_session
  refine g_iload_n hK 1 rfl rfl d5_session_0 ?_
  refine g_if_lt hK ha1 (tgt := 15) (by decide) d5_session_1 (fun _ => ?_) (fun _ => ?_)
  · refine g_lv (lv2 := []) [] rfl ?_
    exact p5_session_15 hcx a1 a2 ha1 ha2   μ 
  · refine g_iload_n hK 1 rfl rfl d5_session_4 ?_
    refine g_aload_n hK 0 rfl rfl d5_session_5 ?_
    refine g_getR hK zfin_5 (fa_5_7 kc_1) q_288 (r := 193) (by decide +kernel) d5_session_6 ?_
    refine g_getI hK zfin_3 (fa_3_1 kc_193) q_186 d5_session_9 (fun hf1 => ?_)
    refine g_icmp_lt hK ha1 hf1 (tgt := 25) (by decide) d5_session_12 (fun _ => ?_) (fun _ => ?_)
    · refine g_iload_n hK 2 rfl rfl d5_session_25 ?_
      refine g_case (fun hs0 => ?_) (fun hs0 => ?_)
      · refine g_tabIn hK (v := 0) (tgt := 60) ha2 hs0 (by decide) (by decide) rfl (by decide) d5_session_26 ?_
        refine g_aload_n hK 0 rfl rfl d5_session_60 ?_
        refine g_getR hK zfin_5 (fa_5_7 kc_1) q_288 (r := 193) (by decide +kernel) d5_session_61 ?_
        refine g_getR hK zfin_3 (fa_3_2 kc_193) q_188 (r := 194) (by decide +kernel) d5_session_64 ?_
        refine g_iload_n hK 1 rfl rfl d5_session_67 ?_
        refine g_iald hK kc_194 d5_session_68 (fun _ hl1 => ?_)
        exact g_iret hK hl1 rfl rfl d5_session_69
      refine g_case (fun hs1 => ?_) (fun hs1 => ?_)
      · refine g_tabIn hK (v := 1) (tgt := 70) ha2 hs1 (by decide) (by decide) rfl (by decide) d5_session_26 ?_
        refine g_aload_n hK 0 rfl rfl d5_session_70 ?_
        refine g_getR hK zfin_5 (fa_5_7 kc_1) q_288 (r := 193) (by decide +kernel) d5_session_71 ?_
        refine g_getR hK zfin_3 (fa_3_3 kc_193) q_190 (r := 195) (by decide +kernel) d5_session_74 ?_
        refine g_iload_n hK 1 rfl rfl d5_session_77 ?_
        refine g_iald hK kc_195 d5_session_78 (fun _ hl2 => ?_)
        exact g_iret hK hl2 rfl rfl d5_session_79
      refine g_case (fun hs2 => ?_) (fun hs2 => ?_)
      · refine g_tabIn hK (v := 2) (tgt := 80) ha2 hs2 (by decide) (by decide) rfl (by decide) d5_session_26 ?_
        refine g_aload_n hK 0 rfl rfl d5_session_80 ?_
        refine g_getR hK zfin_5 (fa_5_7 kc_1) q_288 (r := 193) (by decide +kernel) d5_session_81 ?_
        refine g_getR hK zfin_3 (fa_3_4 kc_193) q_193 (r := 196) (by decide +kernel) d5_session_84 ?_
        refine g_iload_n hK 1 rfl rfl d5_session_87 ?_
        refine g_iald hK kc_196 d5_session_88 (fun _ hl3 => ?_)
        exact g_iret hK hl3 rfl rfl d5_session_89
      refine g_case (fun hs3 => ?_) (fun hs3 => ?_)
      · refine g_tabIn hK (v := 3) (tgt := 90) ha2 hs3 (by decide) (by decide) rfl (by decide) d5_session_26 ?_
        refine g_aload_n hK 0 rfl rfl d5_session_90 ?_
        refine g_iload_n hK 1 rfl rfl d5_session_91 ?_
        refine g_callVcl hK (mk := mkL) (rm := rm5_measuredText) (cb := 1) (sb := 6) (As := [.int (zi a1)]) (b := 1) (n := 1) (c5_measuredText K.2.1 hK.2.2.2.2.2.2.2.2.1 Z a1 μ ha1) rfl (ci := 5) rfl (by decide) kc_1 q_670 q_672 qs_5_measuredText q_1 q_673 rfl (by decide +kernel) (by decide) (Nat.le_of_ble_eq_true rfl) (Nat.le_of_ble_eq_true rfl) (Nat.le_of_ble_eq_true rfl) rfl d5_session_92 (fun r1 m1 hr1 hpr1 => ?_)
        refine g_l2i hK d5_session_95 (fun v1 hv1 => ?_)
        exact g_iret hK hv1 rfl rfl d5_session_96
      refine g_case (fun hs4 => ?_) (fun hs4 => ?_)
      · refine g_tabIn hK (v := 4) (tgt := 97) ha2 hs4 (by decide) (by decide) rfl (by decide) d5_session_26 ?_
        refine g_aload_n hK 0 rfl rfl d5_session_97 ?_
        refine g_iload_n hK 1 rfl rfl d5_session_98 ?_
        refine g_callVcl hK (mk := mkI) (rm := rm5_liveFields) (cb := 1) (sb := 6) (As := [.int (zi a1)]) (b := 1) (n := 1) (c5_liveFields K.2.1 hK.2.2.2.2.2.2.2.2.1 Z a1 μ ha1) rfl (ci := 5) rfl (by decide) kc_1 q_883 q_885 qs_5_liveFields q_1 q_886 rfl (by decide +kernel) (by decide) (Nat.le_of_ble_eq_true rfl) (Nat.le_of_ble_eq_true rfl) (Nat.le_of_ble_eq_true rfl) rfl d5_session_99 (fun r2 m2 hr2 hpr2 => ?_)
        exact g_iret hK hpr2 rfl rfl d5_session_102
      refine g_tabOut hK (tgt := 103) ha2 (by omega) (by decide) d5_session_26 ?_
      exact g_throw hK (i9 := 5) hex rfl (by decide) q_790 q_18 rfl th_5_123 th_5_123_g119 d5_session_103 d5_session_106 d5_session_107 d5_session_109 d5_session_112 (by decide) (Nat.le_of_ble_eq_true rfl) (by decide) (by decide)
    · refine g_lv (lv2 := []) [] rfl ?_
      exact p5_session_15 hcx a1 a2 ha1 ha2   μ 
set_option maxRecDepth 20000 in
theorem p5_account_10 {K : zK} {Z : zZ} (hcx : zOk K Z b5_account RX5 2 (some .int) 6 90 1 6 ∧ ∀ x ∈ K.2.2.2.2.2.2.2.2.2.exceptionTable.toList, False) (a1 : Int) (ha1 : zr a1) (μ : zM) : zG K Z (zΩ Z) (zF K Z (zΩ Z) (zeX mkI)) 1 6 10 [] [] μ (f5_account_10 a1 μ) := by
  obtain ⟨hK, hex⟩ := id hcx
  unfold f5_account_10
  exact g_throw hK (i9 := 5) hex rfl (by decide) q_790 q_18 rfl th_5_123 th_5_123_g119 d5_account_10 d5_account_13 d5_account_14 d5_account_16 d5_account_19 (by decide) (Nat.le_of_ble_eq_true rfl) (by decide) (by decide)
set_option maxRecDepth 20000 in
theorem c5_account (l : Launch) (hst : l.stackTraces = false) (Z : zZ) (a1 : Int) (μ : zM) (ha1 : zr a1) : ∀ x, f5_account a1 μ = some x → zCt l Z (zΩ Z) y5_account (zws (.code y5_account b5_account 2 (some .int))) rm5_account [.ref (Z.2.2.1 + 1), .int (zi a1)] μ (zeX mkI x) := by
  intro x h
  refine zCt.of (enc := (zeX mkI)) h (by decide) hst (Nat.le_of_ble_eq_true rfl) (fun K hK0 hex hl _ => ?_)
  subst hl
  have hcx : zOk K Z b5_account RX5 2 (some .int) 6 90 1 6 ∧ ∀ x ∈ K.2.2.2.2.2.2.2.2.2.exceptionTable.toList, False := ⟨hK0, hex⟩
  have hK := hcx.1
  show zG K Z (zΩ Z) (zF K Z (zΩ Z) (zeX mkI)) 1 6 0 [(0, .ref (Z.2.2.1 + 1)), (1, .int (zi a1))] [] μ (f5_account a1 μ)
  unfold f5_account
  refine g_iload_n hK 1 rfl rfl d5_account_0 ?_
  refine g_if_lt hK ha1 (tgt := 10) (by decide) d5_account_1 (fun _ => ?_) (fun _ => ?_)
  · refine g_lv (lv2 := []) [] rfl ?_
    exact p5_account_10 hcx a1 ha1   μ 
  · refine g_iload_n hK 1 rfl rfl d5_account_4 ?_
    refine g_bipush hK d5_account_5 zkb9 ?_
    refine g_icmp_le hK ha1 zc9 (tgt := 20) (by decide) d5_account_7 (fun _ => ?_) (fun _ => ?_)
    · refine g_aload_n hK 0 rfl rfl d5_account_20 ?_
      refine g_getR hK zfin_5 (fa_5_6 kc_1) q_287 (r := 3) (by decide +kernel) d5_account_21 ?_
      refine g_iload_n hK 1 rfl rfl d5_account_24 ?_
      refine g_iald hK kc_3 d5_account_25 (fun _ hl1 => ?_)
      exact g_iret hK hl1 rfl rfl d5_account_26
    · refine g_lv (lv2 := []) [] rfl ?_
      exact p5_account_10 hcx a1 ha1   μ 
set_option maxRecDepth 20000 in
theorem c5_requireSession (l : Launch) (hst : l.stackTraces = false) (Z : zZ) (μ : zM) : ∀ x, f5_requireSession μ = some x → zCt l Z (zΩ Z) y5_requireSession (zws (.code y5_requireSession b5_requireSession 1 (some .int))) rm5_requireSession [.ref (Z.2.2.1 + 1)] μ (zeX mkI x) := by
  intro x h
  refine zCt.of (enc := (zeX mkI)) h (by decide) hst (Nat.le_of_ble_eq_true rfl) (fun K hK0 hex hl _ => ?_)
  subst hl
  have hcx : zOk K Z b5_requireSession RX5 1 (some .int) 6 90 1 6 ∧ ∀ x ∈ K.2.2.2.2.2.2.2.2.2.exceptionTable.toList, False := ⟨hK0, hex⟩
  have hK := hcx.1
  show zG K Z (zΩ Z) (zF K Z (zΩ Z) (zeX mkI)) 1 6 0 [(0, .ref (Z.2.2.1 + 1))] [] μ (f5_requireSession μ)
  unfold f5_requireSession
  refine g_aload_n hK 0 rfl rfl d5_requireSession_0 ?_
  refine g_getR hK zfin_5 (fa_5_7 kc_1) q_288 (r := 193) (by decide +kernel) d5_requireSession_1 ?_
  refine g_getI hK zfin_3 (fa_3_1 kc_193) q_186 d5_requireSession_4 (fun hf1 => ?_)
  refine g_if_ne hK hf1 (tgt := 21) (by decide) d5_requireSession_7 (fun _ => ?_) (fun _ => ?_)
  · refine g_aload_n hK 0 rfl rfl d5_requireSession_21 ?_
    refine g_getR hK zfin_5 (fa_5_7 kc_1) q_288 (r := 193) (by decide +kernel) d5_requireSession_22 ?_
    refine g_getI hK zfin_3 (fa_3_1 kc_193) q_186 d5_requireSession_25 (fun hf2 => ?_)
    refine g_iconst hK d5_requireSession_28 zki1 ?_
    refine g_isub hK d5_requireSession_29 (fun v1 hv1 => ?_)
    exact g_iret hK hv1 rfl rfl d5_requireSession_30
  · exact g_throwW hK (i9 := 10) hex rfl (by decide) q_710 q_12 rfl th_5_70 th_5_70_g66 d5_requireSession_10 d5_requireSession_13 d5_requireSession_14 d5_requireSession_17 d5_requireSession_20 (by decide) (Nat.le_of_ble_eq_true rfl) (by decide) (by decide)
set_option maxRecDepth 20000 in
theorem c5_lookAt (l : Launch) (hst : l.stackTraces = false) (Z : zZ) (a1 : Int) (μ : zM) (ha1 : zr a1) : ∀ x, f5_lookAt a1 μ = some x → zCt l Z (zΩ Z) y5_lookAt (zws (.code y5_lookAt b5_lookAt 2 (none))) rm5_lookAt [.ref (Z.2.2.1 + 1), .int (zi a1)] μ (zeM x) := by
  intro x h
  refine zCt.of (enc := zeM) h (by decide) hst (Nat.le_of_ble_eq_true rfl) (fun K hK0 hex hl _ => ?_)
  subst hl
  have hcx : zOk K Z b5_lookAt RX5 2 (none) 4 107 0 0 ∧ ∀ x ∈ K.2.2.2.2.2.2.2.2.2.exceptionTable.toList, False := ⟨hK0, hex⟩
  have hK := hcx.1
  show zG K Z (zΩ Z) (zF K Z (zΩ Z) zeM) 0 0 0 [(0, .ref (Z.2.2.1 + 1)), (1, .int (zi a1))] [] μ (f5_lookAt a1 μ)
  unfold f5_lookAt
  refine g_aload_n hK 0 rfl rfl d5_lookAt_0 ?_
  refine g_iload_n hK 1 rfl rfl d5_lookAt_1 ?_
  refine g_callVcm hK (rm := rm5_takeSession) (cb := 0) (sb := 0) (As := [.int (zi a1)]) (b := 1) (n := 1) (c5_takeSession K.2.1 hK.2.2.2.2.2.2.2.2.1 Z a1 μ ha1) rfl (ci := 5) rfl (by decide) kc_1 q_517 q_519 qs_5_takeSession q_1 q_520 rfl (by decide +kernel) (by decide) (Nat.le_of_ble_eq_true rfl) (Nat.le_of_ble_eq_true rfl) (Nat.le_of_ble_eq_true rfl) rfl d5_lookAt_2 (fun m1 hm1 => ?_)
  refine g_aload_n hK 0 rfl rfl d5_lookAt_5 ?_
  refine g_getR hK zfin_5 (fa_5_13 kc_1) q_294 (r := 200) (by decide +kernel) d5_lookAt_6 ?_
  refine g_callVcm hK (rm := rm4_measure) (cb := 0) (sb := 0) (As := []) (b := 200) (n := 0) (c4_measure K.2.1 hK.2.2.2.2.2.2.2.2.1 Z  m1 ) rfl (ci := 4) rfl (by decide) kc_200 q_532 q_533 q_534 q_6 q_535 rfl (by decide +kernel) (by decide) (Nat.le_of_ble_eq_true rfl) (Nat.le_of_ble_eq_true rfl) (Nat.le_of_ble_eq_true rfl) rfl d5_lookAt_9 (fun m2 hm2 => ?_)
  refine g_aload_n hK 0 rfl rfl d5_lookAt_12 ?_
  refine g_getR hK zfin_5 (fa_5_13 kc_1) q_294 (r := 200) (by decide +kernel) d5_lookAt_13 ?_
  refine g_aload_n hK 0 rfl rfl d5_lookAt_16 ?_
  refine g_getR hK zfin_5 (fa_5_7 kc_1) q_288 (r := 193) (by decide +kernel) d5_lookAt_17 ?_
  refine g_getI hK zfin_3 (fa_3_0 kc_193) q_184 d5_lookAt_20 (fun hf1 => ?_)
  refine g_callVcm hK (rm := rm4_arrangeOrder) (cb := 0) (sb := 0) (As := [.int (zi (zI m2 193 0))]) (b := 200) (n := 1) (c4_arrangeOrder K.2.1 hK.2.2.2.2.2.2.2.2.1 Z (zI m2 193 0) m2 hf1) rfl (ci := 4) rfl (by decide) kc_200 q_569 q_570 q_571 q_6 q_572 rfl (by decide +kernel) (by decide) (Nat.le_of_ble_eq_true rfl) (Nat.le_of_ble_eq_true rfl) (Nat.le_of_ble_eq_true rfl) rfl d5_lookAt_23 (fun m3 hm3 => ?_)
  exact g_vret hK rfl rfl d5_lookAt_26
set_option maxRecDepth 20000 in
theorem c5_lookAtInnermost (l : Launch) (hst : l.stackTraces = false) (Z : zZ) (μ : zM) : ∀ x, f5_lookAtInnermost μ = some x → zCt l Z (zΩ Z) y5_lookAtInnermost (zws (.code y5_lookAtInnermost b5_lookAtInnermost 1 (none))) rm5_lookAtInnermost [.ref (Z.2.2.1 + 1)] μ (zeX mkV x) := by
  intro x h
  refine zCt.of (enc := (zeX mkV)) h (by decide) hst (Nat.le_of_ble_eq_true rfl) (fun K hK0 hex hl _ => ?_)
  subst hl
  have hcx : zOk K Z b5_lookAtInnermost RX5 1 (none) 7 128 1 6 ∧ ∀ x ∈ K.2.2.2.2.2.2.2.2.2.exceptionTable.toList, False := ⟨hK0, hex⟩
  have hK := hcx.1
  show zG K Z (zΩ Z) (zF K Z (zΩ Z) (zeX mkV)) 1 6 0 [(0, .ref (Z.2.2.1 + 1))] [] μ (f5_lookAtInnermost μ)
  unfold f5_lookAtInnermost
  refine g_aload_n hK 0 rfl rfl d5_lookAtInnermost_0 ?_
  refine g_aload_n hK 0 rfl rfl d5_lookAtInnermost_1 ?_
  refine g_callVcx (mk2 := mkV) hK (mk := mkI) (rm := rm5_requireSession) (cb := 0) (sb := 0) hex (As := []) (b := 1) (n := 0) (c5_requireSession K.2.1 hK.2.2.2.2.2.2.2.2.1 Z  μ ) rfl (ci := 5) rfl (by decide) kc_1 q_905 q_907 qs_5_requireSession q_1 q_908 rfl (by decide +kernel) (by decide) (Nat.le_of_ble_eq_true rfl) (Nat.le_of_ble_eq_true rfl) (Nat.le_of_ble_eq_true rfl) rfl d5_lookAtInnermost_2 (fun r1 m1 hr1 hpr1 => ?_)
  refine g_callVcm hK (rm := rm5_lookAt) (cb := 0) (sb := 0) (As := [.int (zi r1)]) (b := 1) (n := 1) (c5_lookAt K.2.1 hK.2.2.2.2.2.2.2.2.1 Z r1 m1 hpr1) rfl (ci := 5) rfl (by decide) kc_1 q_513 q_515 qs_5_lookAt q_1 q_516 rfl (by decide +kernel) (by decide) (Nat.le_of_ble_eq_true rfl) (Nat.le_of_ble_eq_true rfl) (Nat.le_of_ble_eq_true rfl) rfl d5_lookAtInnermost_5 (fun m2 hm2 => ?_)
  exact g_vret hK rfl rfl d5_lookAtInnermost_8
set_option maxRecDepth 20000 in
theorem p5_field_14 {K : zK} {Z : zZ} (hcx : zOk K Z b5_field RX5 3 (some .int) 8 148 3 18 ∧ ∀ x ∈ K.2.2.2.2.2.2.2.2.2.exceptionTable.toList, False) (a1 : Int) (a2 : Int) (ha1 : zr a1) (ha2 : zr a2) (μ : zM) : zG K Z (zΩ Z) (zF K Z (zΩ Z) (zeX mkI)) 1 6 14 [] [] μ (f5_field_14 a1 a2 μ) := by
  obtain ⟨hK, hex⟩ := id hcx
  unfold f5_field_14
  exact g_throw hK (i9 := 5) hex rfl (by decide) q_790 q_18 rfl th_5_123 th_5_123_g119 d5_field_14 d5_field_17 d5_field_18 d5_field_20 d5_field_23 (by decide) (Nat.le_of_ble_eq_true rfl) (by decide) (by decide)
set_option maxRecDepth 20000 in
theorem c5_field (l : Launch) (hst : l.stackTraces = false) (Z : zZ) (a1 : Int) (a2 : Int) (μ : zM) (ha1 : zr a1) (ha2 : zr a2) : ∀ x, f5_field a1 a2 μ = some x → zCt l Z (zΩ Z) y5_field (zws (.code y5_field b5_field 3 (some .int))) rm5_field [.ref (Z.2.2.1 + 1), .int (zi a1), .int (zi a2)] μ (zeX mkI x) := by
  intro x h
  refine zCt.of (enc := (zeX mkI)) h (by decide) hst (Nat.le_of_ble_eq_true rfl) (fun K hK0 hex hl _ => ?_)
  subst hl
  have hcx : zOk K Z b5_field RX5 3 (some .int) 8 148 3 18 ∧ ∀ x ∈ K.2.2.2.2.2.2.2.2.2.exceptionTable.toList, False := ⟨hK0, hex⟩
  have hK := hcx.1
  show zG K Z (zΩ Z) (zF K Z (zΩ Z) (zeX mkI)) 3 18 0 [(0, .ref (Z.2.2.1 + 1)), (1, .int (zi a1)), (2, .int (zi a2))] [] μ (f5_field a1 a2 μ)
  unfold f5_field
  refine g_iload_n hK 1 rfl rfl d5_field_0 ?_
  refine g_callScx (mk2 := mkI) hK (mk := mkV) (rm := rm5_requireField) (cb := 2) (sb := 12) hex (As := [.int (zi a1)]) (n := 1) (c5_requireField K.2.1 hK.2.2.2.2.2.2.2.2.1 Z a1 μ ha1) q_863 q_864 q_1 q_865 rfl (by decide +kernel) (by decide) (Nat.le_of_ble_eq_true rfl) (Nat.le_of_ble_eq_true rfl) (Nat.le_of_ble_eq_true rfl) rfl d5_field_1 (fun r1 m1 hr1 hpr1 => ?_)
  refine g_iload_n hK 2 rfl rfl d5_field_4 ?_
  refine g_if_lt hK ha2 (tgt := 14) (by decide) d5_field_5 (fun _ => ?_) (fun _ => ?_)
  · refine g_lv (lv2 := []) [] rfl ?_
    refine g_bud (cb2 := 1) (sb2 := 6) (by decide) (by decide) ?_
    exact p5_field_14 hcx a1 a2 ha1 ha2   m1 
  · refine g_iload_n hK 2 rfl rfl d5_field_8 ?_
    refine g_bipush hK d5_field_9 zkb6 ?_
    refine g_icmp_le hK ha2 zc6 (tgt := 24) (by decide) d5_field_11 (fun _ => ?_) (fun _ => ?_)
    · refine g_aload_n hK 0 rfl rfl d5_field_24 ?_
      refine g_callVcx (mk2 := mkI) hK (mk := mkV) (rm := rm5_lookAtInnermost) (cb := 1) (sb := 6) hex (As := []) (b := 1) (n := 0) (c5_lookAtInnermost K.2.1 hK.2.2.2.2.2.2.2.2.1 Z  m1 ) rfl (ci := 5) rfl (by decide) kc_1 q_901 q_903 qs_5_lookAtInnermost q_1 q_904 rfl (by decide +kernel) (by decide) (Nat.le_of_ble_eq_true rfl) (Nat.le_of_ble_eq_true rfl) (Nat.le_of_ble_eq_true rfl) rfl d5_field_25 (fun r2 m2 hr2 hpr2 => ?_)
      refine g_iload_n hK 2 rfl rfl d5_field_28 ?_
      refine g_case (fun hs0 => ?_) (fun hs0 => ?_)
      · refine g_tabIn hK (v := 0) (tgt := 68) ha2 hs0 (by decide) (by decide) rfl (by decide) d5_field_29 ?_
        refine g_aload_n hK 0 rfl rfl d5_field_68 ?_
        refine g_getR hK zfin_5 (fa_5_13 kc_1) q_294 (r := 200) (by decide +kernel) d5_field_69 ?_
        refine g_iload_n hK 1 rfl rfl d5_field_72 ?_
        refine g_callVco hK (mk := mkZ) (rm := rm4_isLive) (cb := 1) (sb := 6) (As := [.int (zi a1)]) (b := 200) (n := 1) (c4_isLive K.2.1 hK.2.2.2.2.2.2.2.2.1 Z a1 m2 ha1) rfl (ci := 4) rfl (by decide) kc_200 q_910 q_578 q_579 q_6 q_580 rfl (by decide +kernel) (by decide) (Nat.le_of_ble_eq_true rfl) (Nat.le_of_ble_eq_true rfl) (Nat.le_of_ble_eq_true rfl) rfl d5_field_73 (fun r3 hr3 hpr3 => ?_)
        refine g_if_eq hK (zb_r r3) (tgt := 83) (by decide) d5_field_76 (fun _ => ?_) (fun _ => ?_)
        · refine g_iconst hK d5_field_83 zki0 ?_
          exact g_iret hK zc0 rfl rfl d5_field_84
        · refine g_iconst hK d5_field_79 zki1 ?_
          refine g_goto hK (tgt := 84) (by decide) d5_field_80 ?_
          exact g_iret hK zc1 rfl rfl d5_field_84
      refine g_case (fun hs1 => ?_) (fun hs1 => ?_)
      · refine g_tabIn hK (v := 1) (tgt := 85) ha2 hs1 (by decide) (by decide) rfl (by decide) d5_field_29 ?_
        refine g_aload_n hK 0 rfl rfl d5_field_85 ?_
        refine g_getR hK zfin_5 (fa_5_13 kc_1) q_294 (r := 200) (by decide +kernel) d5_field_86 ?_
        refine g_iload_n hK 1 rfl rfl d5_field_89 ?_
        refine g_callVco hK (mk := mkZ) (rm := rm4_isTyped) (cb := 1) (sb := 6) (As := [.int (zi a1)]) (b := 200) (n := 1) (c4_isTyped K.2.1 hK.2.2.2.2.2.2.2.2.1 Z a1 m2 ha1) rfl (ci := 4) rfl (by decide) kc_200 q_911 q_545 q_546 q_6 q_547 rfl (by decide +kernel) (by decide) (Nat.le_of_ble_eq_true rfl) (Nat.le_of_ble_eq_true rfl) (Nat.le_of_ble_eq_true rfl) rfl d5_field_90 (fun r4 hr4 hpr4 => ?_)
        refine g_if_eq hK (zb_r r4) (tgt := 100) (by decide) d5_field_93 (fun _ => ?_) (fun _ => ?_)
        · refine g_iconst hK d5_field_100 zki0 ?_
          exact g_iret hK zc0 rfl rfl d5_field_101
        · refine g_iconst hK d5_field_96 zki1 ?_
          refine g_goto hK (tgt := 101) (by decide) d5_field_97 ?_
          exact g_iret hK zc1 rfl rfl d5_field_101
      refine g_case (fun hs2 => ?_) (fun hs2 => ?_)
      · refine g_tabIn hK (v := 2) (tgt := 102) ha2 hs2 (by decide) (by decide) rfl (by decide) d5_field_29 ?_
        refine g_aload_n hK 0 rfl rfl d5_field_102 ?_
        refine g_getR hK zfin_5 (fa_5_13 kc_1) q_294 (r := 200) (by decide +kernel) d5_field_103 ?_
        refine g_getR hK zfin_4 (fa_4_6 kc_200) q_240 (r := 204) (by decide +kernel) d5_field_106 ?_
        refine g_iload_n hK 1 rfl rfl d5_field_109 ?_
        refine g_iald hK kc_204 d5_field_110 (fun _ hl1 => ?_)
        exact g_iret hK hl1 rfl rfl d5_field_111
      refine g_case (fun hs3 => ?_) (fun hs3 => ?_)
      · refine g_tabIn hK (v := 3) (tgt := 112) ha2 hs3 (by decide) (by decide) rfl (by decide) d5_field_29 ?_
        refine g_aload_n hK 0 rfl rfl d5_field_112 ?_
        refine g_getR hK zfin_5 (fa_5_13 kc_1) q_294 (r := 200) (by decide +kernel) d5_field_113 ?_
        refine g_getR hK zfin_4 (fa_4_5 kc_200) q_238 (r := 203) (by decide +kernel) d5_field_116 ?_
        refine g_iload_n hK 1 rfl rfl d5_field_119 ?_
        refine g_iald hK kc_203 d5_field_120 (fun _ hl2 => ?_)
        exact g_iret hK hl2 rfl rfl d5_field_121
      refine g_case (fun hs4 => ?_) (fun hs4 => ?_)
      · refine g_tabIn hK (v := 4) (tgt := 122) ha2 hs4 (by decide) (by decide) rfl (by decide) d5_field_29 ?_
        refine g_aload_n hK 0 rfl rfl d5_field_122 ?_
        refine g_getR hK zfin_5 (fa_5_13 kc_1) q_294 (r := 200) (by decide +kernel) d5_field_123 ?_
        refine g_iload_n hK 1 rfl rfl d5_field_126 ?_
        refine g_callVco hK (mk := mkI) (rm := rm4_placeOf) (cb := 1) (sb := 6) (As := [.int (zi a1)]) (b := 200) (n := 1) (c4_placeOf K.2.1 hK.2.2.2.2.2.2.2.2.1 Z a1 m2 ha1) rfl (ci := 4) rfl (by decide) kc_200 q_655 q_656 q_657 q_6 q_658 rfl (by decide +kernel) (by decide) (Nat.le_of_ble_eq_true rfl) (Nat.le_of_ble_eq_true rfl) (Nat.le_of_ble_eq_true rfl) rfl d5_field_127 (fun r5 hr5 hpr5 => ?_)
        exact g_iret hK hpr5 rfl rfl d5_field_130
      refine g_case (fun hs5 => ?_) (fun hs5 => ?_)
      · refine g_tabIn hK (v := 5) (tgt := 131) ha2 hs5 (by decide) (by decide) rfl (by decide) d5_field_29 ?_
        refine g_aload_n hK 0 rfl rfl d5_field_131 ?_
        refine g_getR hK zfin_5 (fa_5_13 kc_1) q_294 (r := 200) (by decide +kernel) d5_field_132 ?_
        refine g_getR hK zfin_4 (fa_4_7 kc_200) q_242 (r := 205) (by decide +kernel) d5_field_135 ?_
        refine g_iload_n hK 1 rfl rfl d5_field_138 ?_
        refine g_lald hK kc_205 d5_field_139 (fun _ hl3 => ?_)
        refine g_l2i hK d5_field_140 (fun v1 hv1 => ?_)
        exact g_iret hK hv1 rfl rfl d5_field_141
      refine g_tabOut hK (tgt := 142) ha2 (by omega) (by decide) d5_field_29 ?_
      refine g_aload_n hK 0 rfl rfl d5_field_142 ?_
      refine g_getR hK zfin_5 (fa_5_13 kc_1) q_294 (r := 200) (by decide +kernel) d5_field_143 ?_
      refine g_getM hK zfin_4 (fa_4_0 kc_200) q_229 (w := 2) (by decide) d5_field_146 (fun hm1 => ?_)
      refine g_iload_n hK 1 rfl rfl d5_field_149 ?_
      refine g_callVco hK (mk := mkI) (rm := rm2_countOf) (cb := 1) (sb := 6) (As := [.int (zi a1)]) (b := (zR m2 200 0)) (n := 1) (c2_countOf K.2.1 hK.2.2.2.2.2.2.2.2.1 Z (zR m2 200 0) a1 m2 hm1 ha1) rfl (ci := 2) rfl (by decide) hm1 q_912 q_913 q_914 q_3 q_915 rfl (by decide +kernel) (by decide) (Nat.le_of_ble_eq_true rfl) (Nat.le_of_ble_eq_true rfl) (Nat.le_of_ble_eq_true rfl) rfl d5_field_150 (fun r6 hr6 hpr6 => ?_)
      exact g_iret hK hpr6 rfl rfl d5_field_153
    · refine g_lv (lv2 := []) [] rfl ?_
      refine g_bud (cb2 := 1) (sb2 := 6) (by decide) (by decide) ?_
      exact p5_field_14 hcx a1 a2 ha1 ha2   m1 
