set_option maxRecDepth 20000 in
theorem p0_indexOf_3 {K : zK} {Z : zZ} (hcx : zOk K Z b0_indexOf RX0 5 (some .int) 1 32 0 0 ∧ ∀ x ∈ K.2.2.2.2.2.2.2.2.2.exceptionTable.toList, False) (t : Nat) (a1 : Nat) (a2 : Int) (a3 : Int) (μ : zM) (ht : zkd t = 0) (ha1 : zkd a1 = 100) (ha2 : zr a2) (ha3 : zr a3) (k3 : Int → Option Int) (hk3 : ∀ (x4 : Int) (hx4 : zr x4), zG K Z (zΩ Z) (zF K Z (zΩ Z) (zeP mkI μ)) 0 0 3 [(0, .ref (Z.2.2.1 + t)), (1, .ref (Z.2.2.1 + a1)), (2, .int (zi a2)), (3, .int (zi a3)), (4, .int (zi x4))] [] μ (k3 x4)) (x4 : Int) (hx4 : zr x4) : zG K Z (zΩ Z) (zF K Z (zΩ Z) (zeP mkI μ)) 0 0 3 [(0, .ref (Z.2.2.1 + t)), (1, .ref (Z.2.2.1 + a1)), (2, .int (zi a2)), (3, .int (zi a3)), (4, .int (zi x4))] [] μ (f0_indexOf_3 t a1 a2 a3 μ k3 x4) := by
  obtain ⟨hK, hex⟩ := id hcx
  unfold f0_indexOf_3
  refine g_iload hK 4 rfl d0_indexOf_3 ?_
  refine g_aload_n hK 0 rfl rfl d0_indexOf_5 ?_
  refine g_getI hK zfin_0 (fa_0_1 ht) q_131 d0_indexOf_6 (fun hf1 => ?_)
  refine g_icmp_ge hK hx4 hf1 (tgt := 37) (by decide) d0_indexOf_9 (fun _ => ?_) (fun _ => ?_)
  · refine g_iconst hK d0_indexOf_37 zkim1 ?_
    exact g_iret hK zcm1 rfl rfl d0_indexOf_38
  · refine g_aload_n hK 0 rfl rfl d0_indexOf_12 ?_
    refine g_getR hK zfin_0 (fa_0_0 ht) q_128 (pt_0_snippets ht) d0_indexOf_13 ?_
    refine g_iload hK 4 rfl d0_indexOf_16 ?_
    refine g_aald105 hK (g := fun i => ((t + 4) + 11 * i)) (pt_0_snippets_k ht) (zlib_el ht) d0_indexOf_18 (fun hz1 => ?_)
    have he1 : zkd ((t + 4) + 11 * (zx x4)) = 2 := (zlib_ek ht) _ (zx_lt hz1)
    refine g_aload_n hK 1 rfl rfl d0_indexOf_19 ?_
    refine g_iload_n hK 2 rfl rfl d0_indexOf_20 ?_
    refine g_iload_n hK 3 rfl rfl d0_indexOf_21 ?_
    refine g_callVco hK (mk := mkZ) (rm := rm2_isNamed) (cb := 0) (sb := 0) (As := [.ref (Z.2.2.1 + a1), .int (zi a2), .int (zi a3)]) (b := ((t + 4) + 11 * (zx x4))) (n := 3) (c2_isNamed K.2.1 hK.2.2.2.2.2.2.2.2.1 Z ((t + 4) + 11 * (zx x4)) a1 a2 a3 μ he1 ha1 ha2 ha3) rfl (ci := 2) rfl (by decide) he1 q_408 q_409 q_410 q_3 q_411 rfl (by decide +kernel) (by decide) (Nat.le_of_ble_eq_true rfl) (Nat.le_of_ble_eq_true rfl) (Nat.le_of_ble_eq_true rfl) rfl d0_indexOf_22 (fun r1 hr1 hpr1 => ?_)
    refine g_if_eq hK (zb_r r1) (tgt := 31) (by decide) d0_indexOf_25 (fun _ => ?_) (fun _ => ?_)
    · refine g_iinc hK (lv2 := fun v1 => [(0, .ref (Z.2.2.1 + t)), (1, .ref (Z.2.2.1 + a1)), (2, .int (zi a2)), (3, .int (zi a3)), (4, .int (zi v1))]) 4 rfl [1, 2, 3, 4, 0] (fun _ => rfl) (by decide) d0_indexOf_31 (fun v1 hv1 => ?_)
      refine g_goto hK (tgt := 3) (by decide) d0_indexOf_34 ?_
      exact hk3 v1  hv1
    · refine g_iload hK 4 rfl d0_indexOf_28 ?_
      exact g_iret hK hx4 rfl rfl d0_indexOf_30
set_option maxRecDepth 20000 in
theorem l0_indexOf_3 {K : zK} {Z : zZ} (hcx : zOk K Z b0_indexOf RX0 5 (some .int) 1 32 0 0 ∧ ∀ x ∈ K.2.2.2.2.2.2.2.2.2.exceptionTable.toList, False) (t : Nat) (a1 : Nat) (a2 : Int) (a3 : Int) (μ : zM) (ht : zkd t = 0) (ha1 : zkd a1 = 100) (ha2 : zr a2) (ha3 : zr a3) : ∀ (i9 : Nat) (x4 : Int) (hx4 : zr x4), zG K Z (zΩ Z) (zF K Z (zΩ Z) (zeP mkI μ)) 0 0 3 [(0, .ref (Z.2.2.1 + t)), (1, .ref (Z.2.2.1 + a1)), (2, .int (zi a2)), (3, .int (zi a3)), (4, .int (zi x4))] [] μ (zfx (f0_indexOf_3 t a1 a2 a3 μ) (fun _ => none) i9 x4) := by
  intro i9
  induction i9 with
  | zero => intro x4 hx4; exact g_none
  | succ i9 ih => intro x4 hx4; exact p0_indexOf_3 hcx t a1 a2 a3 μ ht ha1 ha2 ha3  (zfx (f0_indexOf_3 t a1 a2 a3 μ) (fun _ => none) i9) ih x4 hx4
set_option maxRecDepth 20000 in
theorem c0_indexOf (l : Launch) (hst : l.stackTraces = false) (Z : zZ) (t : Nat) (a1 : Nat) (a2 : Int) (a3 : Int) (μ : zM) (ht : zkd t = 0) (ha1 : zkd a1 = 100) (ha2 : zr a2) (ha3 : zr a3) : ∀ x, f0_indexOf t a1 a2 a3 μ = some x → zCt l Z (zΩ Z) y0_indexOf (zws (.code y0_indexOf b0_indexOf 5 (some .int))) rm0_indexOf [.ref (Z.2.2.1 + t), .ref (Z.2.2.1 + a1), .int (zi a2), .int (zi a3)] μ (zeP mkI μ x) := by
  intro x h
  refine zCt.of (enc := (zeP mkI μ)) h (by decide) hst (Nat.le_of_ble_eq_true rfl) (fun K hK0 hex hl _ => ?_)
  subst hl
  have hcx : zOk K Z b0_indexOf RX0 5 (some .int) 1 32 0 0 ∧ ∀ x ∈ K.2.2.2.2.2.2.2.2.2.exceptionTable.toList, False := ⟨hK0, hex⟩
  have hK := hcx.1
  show zG K Z (zΩ Z) (zF K Z (zΩ Z) (zeP mkI μ)) 0 0 0 [(0, .ref (Z.2.2.1 + t)), (1, .ref (Z.2.2.1 + a1)), (2, .int (zi a2)), (3, .int (zi a3))] [] μ (f0_indexOf t a1 a2 a3 μ)
  unfold f0_indexOf
  refine g_iconst hK d0_indexOf_0 zki0 ?_
  refine g_istore hK (lv2 := [(0, .ref (Z.2.2.1 + t)), (1, .ref (Z.2.2.1 + a1)), (2, .int (zi a2)), (3, .int (zi a3)), (4, .int (zi 0))]) [1, 2, 3, 4, 0] rfl (by decide) d0_indexOf_1 ?_
  exact l0_indexOf_3 hcx t a1 a2 a3 μ ht ha1 ha2 ha3  zFu 0  zc0
set_option maxRecDepth 20000 in
theorem c1_exchange (l : Launch) (hst : l.stackTraces = false) (Z : zZ) (a1 : Nat) (μ : zM) (ha1 : zkd a1 = 0) : ∀ x, f1_exchange a1 μ = some x → zCt l Z (zΩ Z) y1_exchange (zws (.code y1_exchange b1_exchange 3 (some (.object RX0)))) rm1_exchange [.ref (Z.2.2.1 + 99), .ref (Z.2.2.1 + a1)] μ (ze2 (mkR Z.2.2.1 0) x) := by
  intro x h
  refine zCt.of (enc := (ze2 (mkR Z.2.2.1 0))) h (by decide) hst (Nat.le_of_ble_eq_true rfl) (fun K hK0 hex hl _ => ?_)
  subst hl
  have hcx : zOk K Z b1_exchange RX1 3 (some (.object RX0)) 0 8 0 0 ∧ ∀ x ∈ K.2.2.2.2.2.2.2.2.2.exceptionTable.toList, False := ⟨hK0, hex⟩
  have hK := hcx.1
  show zG K Z (zΩ Z) (zF K Z (zΩ Z) (ze2 (mkR Z.2.2.1 0))) 0 0 0 [(0, .ref (Z.2.2.1 + 99)), (1, .ref (Z.2.2.1 + a1))] [] μ (f1_exchange a1 μ)
  unfold f1_exchange
  refine g_aload_n hK 0 rfl rfl d1_exchange_0 ?_
  refine g_getM hK zfin_1 (fa_1_3 kc_99) q_154 (w := 0) (by decide) d1_exchange_1 (fun hm1 => ?_)
  refine g_astore_n hK (lv2 := [(0, .ref (Z.2.2.1 + 99)), (1, .ref (Z.2.2.1 + a1)), (2, .ref (Z.2.2.1 + (zR μ 99 3)))]) [1, 2, 0] rfl rfl (by decide) d1_exchange_4 ?_
  refine g_aload_n hK 0 rfl rfl d1_exchange_5 ?_
  refine g_aload_n hK 1 rfl rfl d1_exchange_6 ?_
  refine g_putR hK (r := a1) (w := 0) zfin_1 (fa_1_3 kc_99) q_154 (by decide +kernel) (by decide) ha1 (zkd_ne0 ha1 (by decide)) (fun _ => rfl) (fun _ => rfl) rfl (tyX1_ok 3 (by decide)) tyX1 tyX1_ok nmX1 d1_exchange_7 ?_
  refine g_ltM (fun m1 => ?_)
  refine g_aload_n hK 2 rfl rfl d1_exchange_10 ?_
  exact g_aret hK hm1 rfl rfl d1_exchange_11
set_option maxRecDepth 20000 in
theorem p1_skipBlanks_35 {K : zK} {Z : zZ} (hcx : zOk K Z b1_skipBlanks RX1 2 (none) 0 8 0 0 ∧ ∀ x ∈ K.2.2.2.2.2.2.2.2.2.exceptionTable.toList, False) (k5 : Int → zM → Option zM) (hk5 : ∀ (x1 : Int) (μ : zM) (hx1 : zr x1), zG K Z (zΩ Z) (zF K Z (zΩ Z) zeM) 0 0 5 [(0, .ref (Z.2.2.1 + 99)), (1, .int (zi x1))] [] μ (k5 x1 μ)) (x1 : Int) (μ : zM) (hx1 : zr x1) : zG K Z (zΩ Z) (zF K Z (zΩ Z) zeM) 0 0 35 [(0, .ref (Z.2.2.1 + 99)), (1, .int (zi x1))] [] μ (f1_skipBlanks_35 k5 x1 μ) := by
  obtain ⟨hK, hex⟩ := id hcx
  unfold f1_skipBlanks_35
  refine g_aload_n hK 0 rfl rfl d1_skipBlanks_35 ?_
  refine g_iload_n hK 1 rfl rfl d1_skipBlanks_36 ?_
  refine g_iconst hK d1_skipBlanks_37 zki1 ?_
  refine g_iadd hK d1_skipBlanks_38 (fun v2 hv2 => ?_)
  refine g_putI hK zfin_1 (fa_1_2 kc_99) q_153 hv2 rfl (tyX1_ok 2 (by decide)) tyX1 tyX1_ok nmX1 d1_skipBlanks_39 ?_
  refine g_ltM (fun m1 => ?_)
  refine g_iinc hK (lv2 := fun v3 => [(0, .ref (Z.2.2.1 + 99)), (1, .int (zi v3))]) 1 rfl [1, 0] (fun _ => rfl) (by decide) d1_skipBlanks_42 (fun v3 hv3 => ?_)
  refine g_goto hK (tgt := 5) (by decide) d1_skipBlanks_45 ?_
  exact hk5 v3 m1 hv3
set_option maxRecDepth 20000 in
theorem p1_skipBlanks_5 {K : zK} {Z : zZ} (hcx : zOk K Z b1_skipBlanks RX1 2 (none) 0 8 0 0 ∧ ∀ x ∈ K.2.2.2.2.2.2.2.2.2.exceptionTable.toList, False) (k5 : Int → zM → Option zM) (hk5 : ∀ (x1 : Int) (μ : zM) (hx1 : zr x1), zG K Z (zΩ Z) (zF K Z (zΩ Z) zeM) 0 0 5 [(0, .ref (Z.2.2.1 + 99)), (1, .int (zi x1))] [] μ (k5 x1 μ)) (x1 : Int) (μ : zM) (hx1 : zr x1) : zG K Z (zΩ Z) (zF K Z (zΩ Z) zeM) 0 0 5 [(0, .ref (Z.2.2.1 + 99)), (1, .int (zi x1))] [] μ (f1_skipBlanks_5 k5 x1 μ) := by
  obtain ⟨hK, hex⟩ := id hcx
  unfold f1_skipBlanks_5
  refine g_iload_n hK 1 rfl rfl d1_skipBlanks_5 ?_
  refine g_aload_n hK 0 rfl rfl d1_skipBlanks_6 ?_
  refine g_getI hK zfin_1 (fa_1_1 kc_99) q_152 d1_skipBlanks_7 (fun hf2 => ?_)
  refine g_icmp_ge hK hx1 hf2 (tgt := 48) (by decide) d1_skipBlanks_10 (fun _ => ?_) (fun _ => ?_)
  · exact g_vret hK rfl rfl d1_skipBlanks_48
  · refine g_aload_n hK 0 rfl rfl d1_skipBlanks_13 ?_
    refine g_getM hK zfin_1 (fa_1_0 kc_99) q_151 (w := 100) (by decide) d1_skipBlanks_14 (fun hm1 => ?_)
    refine g_iload_n hK 1 rfl rfl d1_skipBlanks_17 ?_
    refine g_iald hK hm1 d1_skipBlanks_18 (fun _ hl1 => ?_)
    refine g_bipush hK d1_skipBlanks_19 zkb32 ?_
    refine g_icmp_eq hK hl1 zc32 (tgt := 35) (by decide) d1_skipBlanks_21 (fun _ => ?_) (fun _ => ?_)
    · exact p1_skipBlanks_35 hcx k5 hk5 x1 μ hx1
    · refine g_aload_n hK 0 rfl rfl d1_skipBlanks_24 ?_
      refine g_getM hK zfin_1 (fa_1_0 kc_99) q_151 (w := 100) (by decide) d1_skipBlanks_25 (fun hm2 => ?_)
      refine g_iload_n hK 1 rfl rfl d1_skipBlanks_28 ?_
      refine g_iald hK hm2 d1_skipBlanks_29 (fun _ hl2 => ?_)
      refine g_bipush hK d1_skipBlanks_30 zkb10 ?_
      refine g_icmp_ne hK hl2 zc10 (tgt := 48) (by decide) d1_skipBlanks_32 (fun _ => ?_) (fun _ => ?_)
      · exact g_vret hK rfl rfl d1_skipBlanks_48
      · exact p1_skipBlanks_35 hcx k5 hk5 x1 μ hx1
set_option maxRecDepth 20000 in
theorem l1_skipBlanks_5 {K : zK} {Z : zZ} (hcx : zOk K Z b1_skipBlanks RX1 2 (none) 0 8 0 0 ∧ ∀ x ∈ K.2.2.2.2.2.2.2.2.2.exceptionTable.toList, False) : ∀ (i9 : Nat) (x1 : Int) (μ : zM) (hx1 : zr x1), zG K Z (zΩ Z) (zF K Z (zΩ Z) zeM) 0 0 5 [(0, .ref (Z.2.2.1 + 99)), (1, .int (zi x1))] [] μ (zfx (f1_skipBlanks_5) (fun _ _ => none) i9 x1 μ) := by
  intro i9
  induction i9 with
  | zero => intro x1 μ hx1; exact g_none
  | succ i9 ih => intro x1 μ hx1; exact p1_skipBlanks_5 hcx  (zfx (f1_skipBlanks_5) (fun _ _ => none) i9) ih x1 μ hx1
set_option maxRecDepth 20000 in
theorem c1_skipBlanks (l : Launch) (hst : l.stackTraces = false) (Z : zZ) (μ : zM) : ∀ x, f1_skipBlanks μ = some x → zCt l Z (zΩ Z) y1_skipBlanks (zws (.code y1_skipBlanks b1_skipBlanks 2 (none))) rm1_skipBlanks [.ref (Z.2.2.1 + 99)] μ (zeM x) := by
  intro x h
  refine zCt.of (enc := zeM) h (by decide) hst (Nat.le_of_ble_eq_true rfl) (fun K hK0 hex hl _ => ?_)
  subst hl
  have hcx : zOk K Z b1_skipBlanks RX1 2 (none) 0 8 0 0 ∧ ∀ x ∈ K.2.2.2.2.2.2.2.2.2.exceptionTable.toList, False := ⟨hK0, hex⟩
  have hK := hcx.1
  show zG K Z (zΩ Z) (zF K Z (zΩ Z) zeM) 0 0 0 [(0, .ref (Z.2.2.1 + 99))] [] μ (f1_skipBlanks μ)
  unfold f1_skipBlanks
  refine g_aload_n hK 0 rfl rfl d1_skipBlanks_0 ?_
  refine g_getI hK zfin_1 (fa_1_2 kc_99) q_153 d1_skipBlanks_1 (fun hf1 => ?_)
  refine g_ltI hf1 (fun v1 hv1 => ?_)
  refine g_istore_n hK (lv2 := [(0, .ref (Z.2.2.1 + 99)), (1, .int (zi v1))]) [1, 0] rfl rfl (by decide) d1_skipBlanks_4 ?_
  exact l1_skipBlanks_5 hcx  zFu v1 μ hv1
set_option maxRecDepth 20000 in
theorem p1_endOfWord_10 {K : zK} {Z : zZ} (hcx : zOk K Z b1_endOfWord RX1 3 (some .int) 0 8 0 0 ∧ ∀ x ∈ K.2.2.2.2.2.2.2.2.2.exceptionTable.toList, False) (μ : zM) (k10 : Int → Int → Option Int) (hk10 : ∀ (x1 : Int) (x2 : Int) (hx1 : zr x1) (hx2 : zr x2), zG K Z (zΩ Z) (zF K Z (zΩ Z) (zeP mkI μ)) 0 0 10 [(0, .ref (Z.2.2.1 + 99)), (1, .int (zi x1)), (2, .int (zi x2))] [] μ (k10 x1 x2)) (x1 : Int) (x2 : Int) (hx1 : zr x1) (hx2 : zr x2) : zG K Z (zΩ Z) (zF K Z (zΩ Z) (zeP mkI μ)) 0 0 10 [(0, .ref (Z.2.2.1 + 99)), (1, .int (zi x1)), (2, .int (zi x2))] [] μ (f1_endOfWord_10 μ k10 x1 x2) := by
  obtain ⟨hK, hex⟩ := id hcx
  unfold f1_endOfWord_10
  refine g_iload_n hK 2 rfl rfl d1_endOfWord_10 ?_
  refine g_aload_n hK 0 rfl rfl d1_endOfWord_11 ?_
  refine g_getI hK zfin_1 (fa_1_1 kc_99) q_152 d1_endOfWord_12 (fun hf3 => ?_)
  refine g_icmp_ge hK hx2 hf3 (tgt := 50) (by decide) d1_endOfWord_15 (fun _ => ?_) (fun _ => ?_)
  · refine g_iload_n hK 1 rfl rfl d1_endOfWord_50 ?_
    exact g_iret hK hx1 rfl rfl d1_endOfWord_51
  · refine g_aload_n hK 0 rfl rfl d1_endOfWord_18 ?_
    refine g_getM hK zfin_1 (fa_1_0 kc_99) q_151 (w := 100) (by decide) d1_endOfWord_19 (fun hm1 => ?_)
    refine g_iload_n hK 2 rfl rfl d1_endOfWord_22 ?_
    refine g_iald hK hm1 d1_endOfWord_23 (fun _ hl1 => ?_)
    refine g_bipush hK d1_endOfWord_24 zkb97 ?_
    refine g_icmp_lt hK hl1 zc97 (tgt := 50) (by decide) d1_endOfWord_26 (fun _ => ?_) (fun _ => ?_)
    · refine g_iload_n hK 1 rfl rfl d1_endOfWord_50 ?_
      exact g_iret hK hx1 rfl rfl d1_endOfWord_51
    · refine g_aload_n hK 0 rfl rfl d1_endOfWord_29 ?_
      refine g_getM hK zfin_1 (fa_1_0 kc_99) q_151 (w := 100) (by decide) d1_endOfWord_30 (fun hm2 => ?_)
      refine g_iload_n hK 2 rfl rfl d1_endOfWord_33 ?_
      refine g_iald hK hm2 d1_endOfWord_34 (fun _ hl2 => ?_)
      refine g_bipush hK d1_endOfWord_35 zkb122 ?_
      refine g_icmp_gt hK hl2 zc122 (tgt := 50) (by decide) d1_endOfWord_37 (fun _ => ?_) (fun _ => ?_)
      · refine g_iload_n hK 1 rfl rfl d1_endOfWord_50 ?_
        exact g_iret hK hx1 rfl rfl d1_endOfWord_51
      · refine g_iload_n hK 2 rfl rfl d1_endOfWord_40 ?_
        refine g_iconst hK d1_endOfWord_41 zki1 ?_
        refine g_iadd hK d1_endOfWord_42 (fun v3 hv3 => ?_)
        refine g_istore_n hK (lv2 := [(0, .ref (Z.2.2.1 + 99)), (1, .int (zi v3)), (2, .int (zi x2))]) [1, 0, 2] rfl rfl (by decide) d1_endOfWord_43 ?_
        refine g_iinc hK (lv2 := fun v4 => [(0, .ref (Z.2.2.1 + 99)), (1, .int (zi v3)), (2, .int (zi v4))]) 2 rfl [1, 2, 0] (fun _ => rfl) (by decide) d1_endOfWord_44 (fun v4 hv4 => ?_)
        refine g_goto hK (tgt := 10) (by decide) d1_endOfWord_47 ?_
        exact hk10 v3 v4  hv3 hv4
set_option maxRecDepth 20000 in
theorem l1_endOfWord_10 {K : zK} {Z : zZ} (hcx : zOk K Z b1_endOfWord RX1 3 (some .int) 0 8 0 0 ∧ ∀ x ∈ K.2.2.2.2.2.2.2.2.2.exceptionTable.toList, False) (μ : zM) : ∀ (i9 : Nat) (x1 : Int) (x2 : Int) (hx1 : zr x1) (hx2 : zr x2), zG K Z (zΩ Z) (zF K Z (zΩ Z) (zeP mkI μ)) 0 0 10 [(0, .ref (Z.2.2.1 + 99)), (1, .int (zi x1)), (2, .int (zi x2))] [] μ (zfx (f1_endOfWord_10 μ) (fun _ _ => none) i9 x1 x2) := by
  intro i9
  induction i9 with
  | zero => intro x1 x2 hx1 hx2; exact g_none
  | succ i9 ih => intro x1 x2 hx1 hx2; exact p1_endOfWord_10 hcx μ  (zfx (f1_endOfWord_10 μ) (fun _ _ => none) i9) ih x1 x2 hx1 hx2
set_option maxRecDepth 20000 in
theorem c1_endOfWord (l : Launch) (hst : l.stackTraces = false) (Z : zZ) (μ : zM) : ∀ x, f1_endOfWord μ = some x → zCt l Z (zΩ Z) y1_endOfWord (zws (.code y1_endOfWord b1_endOfWord 3 (some .int))) rm1_endOfWord [.ref (Z.2.2.1 + 99)] μ (zeP mkI μ x) := by
  intro x h
  refine zCt.of (enc := (zeP mkI μ)) h (by decide) hst (Nat.le_of_ble_eq_true rfl) (fun K hK0 hex hl _ => ?_)
  subst hl
  have hcx : zOk K Z b1_endOfWord RX1 3 (some .int) 0 8 0 0 ∧ ∀ x ∈ K.2.2.2.2.2.2.2.2.2.exceptionTable.toList, False := ⟨hK0, hex⟩
  have hK := hcx.1
  show zG K Z (zΩ Z) (zF K Z (zΩ Z) (zeP mkI μ)) 0 0 0 [(0, .ref (Z.2.2.1 + 99))] [] μ (f1_endOfWord μ)
  unfold f1_endOfWord
  refine g_aload_n hK 0 rfl rfl d1_endOfWord_0 ?_
  refine g_getI hK zfin_1 (fa_1_2 kc_99) q_153 d1_endOfWord_1 (fun hf1 => ?_)
  refine g_ltI hf1 (fun v1 hv1 => ?_)
  refine g_istore_n hK (lv2 := [(0, .ref (Z.2.2.1 + 99)), (1, .int (zi v1))]) [1, 0] rfl rfl (by decide) d1_endOfWord_4 ?_
  refine g_aload_n hK 0 rfl rfl d1_endOfWord_5 ?_
  refine g_getI hK zfin_1 (fa_1_2 kc_99) q_153 d1_endOfWord_6 (fun hf2 => ?_)
  refine g_ltI hf2 (fun v2 hv2 => ?_)
  refine g_istore_n hK (lv2 := [(0, .ref (Z.2.2.1 + 99)), (1, .int (zi v1)), (2, .int (zi v2))]) [1, 2, 0] rfl rfl (by decide) d1_endOfWord_9 ?_
  exact l1_endOfWord_10 hcx μ  zFu v1 v2  hv1 hv2
set_option maxRecDepth 20000 in
theorem p1_isWord_17 {K : zK} {Z : zZ} (hcx : zOk K Z b1_isWord RX1 4 (some .boolean) 6 200 0 0 ∧ ∀ x ∈ K.2.2.2.2.2.2.2.2.2.exceptionTable.toList, False) (a1 : Int) (a2 : Nat) (μ : zM) (ha1 : zr a1) (k17 : Int → Option Bool) (hk17 : ∀ (x3 : Int) (hx3 : zr x3), zG K Z (zΩ Z) (zF K Z (zΩ Z) (zeP mkZ μ)) 0 0 17 [(0, .ref (Z.2.2.1 + 99)), (2, .ref (Z.2.2.2.1 a2)), (3, .int (zi x3))] [] μ (k17 x3)) (x3 : Int) (hx3 : zr x3) : zG K Z (zΩ Z) (zF K Z (zΩ Z) (zeP mkZ μ)) 0 0 17 [(0, .ref (Z.2.2.1 + 99)), (2, .ref (Z.2.2.2.1 a2)), (3, .int (zi x3))] [] μ (f1_isWord_17 a1 a2 μ k17 x3) := by
  obtain ⟨hK, hex⟩ := id hcx
  unfold f1_isWord_17
  refine g_iload_n hK 2 rfl rfl d1_isWord_17 ?_
  refine g_aload_n hK 1 rfl rfl d1_isWord_18 ?_
  refine g_slen hK qs_l1_len (Nat.le_of_ble_eq_true rfl) (Nat.le_of_ble_eq_true rfl) (Nat.le_of_ble_eq_true rfl) d1_isWord_19 (fun _ v3 hv3 => ?_)
  refine g_icmp_ge hK hx3 hv3 (tgt := 52) (by decide) d1_isWord_22 (fun _ => ?_) (fun _ => ?_)
  · refine g_iconst hK d1_isWord_52 zki1 ?_
    exact g_zret hK (by decide) rfl rfl d1_isWord_53
  · refine g_aload_n hK 0 rfl rfl d1_isWord_25 ?_
    refine g_getM hK zfin_1 (fa_1_0 kc_99) q_151 (w := 100) (by decide) d1_isWord_26 (fun hm1 => ?_)
    refine g_aload_n hK 0 rfl rfl d1_isWord_29 ?_
    refine g_getI hK zfin_1 (fa_1_2 kc_99) q_153 d1_isWord_30 (fun hf2 => ?_)
    refine g_iload_n hK 2 rfl rfl d1_isWord_33 ?_
    refine g_iadd hK d1_isWord_34 (fun v4 hv4 => ?_)
    refine g_iald hK hm1 d1_isWord_35 (fun _ hl1 => ?_)
    refine g_aload_n hK 1 rfl rfl d1_isWord_36 ?_
    refine g_iload_n hK 2 rfl rfl d1_isWord_37 ?_
    refine g_schar hK hx3 qs_l1_cha (Nat.le_of_ble_eq_true rfl) (Nat.le_of_ble_eq_true rfl) (Nat.le_of_ble_eq_true rfl) d1_isWord_38 (fun v5 hv5 => ?_)
    refine g_icmp_eq hK hl1 hv5 (tgt := 46) (by decide) d1_isWord_41 (fun _ => ?_) (fun _ => ?_)
    · refine g_iinc hK (lv2 := fun v6 => [(0, .ref (Z.2.2.1 + 99)), (2, .ref (Z.2.2.2.1 a2)), (3, .int (zi v6))]) 2 rfl [1, 2, 0] (fun _ => rfl) (by decide) d1_isWord_46 (fun v6 hv6 => ?_)
      refine g_goto hK (tgt := 17) (by decide) d1_isWord_49 ?_
      exact hk17 v6  hv6
    · refine g_iconst hK d1_isWord_44 zki0 ?_
      exact g_zret hK (by decide) rfl rfl d1_isWord_45
set_option maxRecDepth 20000 in
theorem l1_isWord_17 {K : zK} {Z : zZ} (hcx : zOk K Z b1_isWord RX1 4 (some .boolean) 6 200 0 0 ∧ ∀ x ∈ K.2.2.2.2.2.2.2.2.2.exceptionTable.toList, False) (a1 : Int) (a2 : Nat) (μ : zM) (ha1 : zr a1) : ∀ (i9 : Nat) (x3 : Int) (hx3 : zr x3), zG K Z (zΩ Z) (zF K Z (zΩ Z) (zeP mkZ μ)) 0 0 17 [(0, .ref (Z.2.2.1 + 99)), (2, .ref (Z.2.2.2.1 a2)), (3, .int (zi x3))] [] μ (zfx (f1_isWord_17 a1 a2 μ) (fun _ => none) i9 x3) := by
  intro i9
  induction i9 with
  | zero => intro x3 hx3; exact g_none
  | succ i9 ih => intro x3 hx3; exact p1_isWord_17 hcx a1 a2 μ ha1  (zfx (f1_isWord_17 a1 a2 μ) (fun _ => none) i9) ih x3 hx3
set_option maxRecDepth 20000 in
theorem c1_isWord (l : Launch) (hst : l.stackTraces = false) (Z : zZ) (a1 : Int) (a2 : Nat) (μ : zM) (ha1 : zr a1) : ∀ x, f1_isWord a1 a2 μ = some x → zCt l Z (zΩ Z) y1_isWord (zws (.code y1_isWord b1_isWord 4 (some .boolean))) rm1_isWord [.ref (Z.2.2.1 + 99), .int (zi a1), .ref (Z.2.2.2.1 a2)] μ (zeP mkZ μ x) := by
  intro x h
  refine zCt.of (enc := (zeP mkZ μ)) h (by decide) hst (Nat.le_of_ble_eq_true rfl) (fun K hK0 hex hl _ => ?_)
  subst hl
  have hcx : zOk K Z b1_isWord RX1 4 (some .boolean) 6 200 0 0 ∧ ∀ x ∈ K.2.2.2.2.2.2.2.2.2.exceptionTable.toList, False := ⟨hK0, hex⟩
  have hK := hcx.1
  show zG K Z (zΩ Z) (zF K Z (zΩ Z) (zeP mkZ μ)) 0 0 0 [(0, .ref (Z.2.2.1 + 99)), (1, .int (zi a1)), (2, .ref (Z.2.2.2.1 a2))] [] μ (f1_isWord a1 a2 μ)
  unfold f1_isWord
  refine g_iload_n hK 1 rfl rfl d1_isWord_0 ?_
  refine g_aload_n hK 0 rfl rfl d1_isWord_1 ?_
  refine g_getI hK zfin_1 (fa_1_2 kc_99) q_153 d1_isWord_2 (fun hf1 => ?_)
  refine g_isub hK d1_isWord_5 (fun v1 hv1 => ?_)
  refine g_aload_n hK 2 rfl rfl d1_isWord_6 ?_
  refine g_slen hK qs_l1_len (Nat.le_of_ble_eq_true rfl) (Nat.le_of_ble_eq_true rfl) (Nat.le_of_ble_eq_true rfl) d1_isWord_7 (fun _ v2 hv2 => ?_)
  refine g_icmp_eq hK hv1 hv2 (tgt := 15) (by decide) d1_isWord_10 (fun _ => ?_) (fun _ => ?_)
  · refine g_iconst hK d1_isWord_15 zki0 ?_
    refine g_istore_n hK (lv2 := [(0, .ref (Z.2.2.1 + 99)), (1, .int (zi a1)), (2, .ref (Z.2.2.2.1 a2)), (3, .int (zi 0))]) [1, 2, 3, 0] rfl rfl (by decide) d1_isWord_16 ?_
    refine g_lv (lv2 := [(0, .ref (Z.2.2.1 + 99)), (2, .ref (Z.2.2.2.1 a2)), (3, .int (zi 0))]) [0, 2, 3] rfl ?_
    exact l1_isWord_17 hcx a1 a2 μ ha1  zFu 0  zc0
  · refine g_iconst hK d1_isWord_13 zki0 ?_
    exact g_zret hK (by decide) rfl rfl d1_isWord_14
set_option maxRecDepth 20000 in
theorem c1_fail (l : Launch) (hst : l.stackTraces = false) (Z : zZ) (a1 : Int) (a2 : Int) (μ : zM) (ha1 : zr a1) (ha2 : zr a2) : ∀ x, f1_fail a1 a2 μ = some x → zCt l Z (zΩ Z) y1_fail (zws (.code y1_fail b1_fail 3 (none))) rm1_fail [.ref (Z.2.2.1 + 99), .int (zi a1), .int (zi a2)] μ (zeM x) := by
  intro x h
  refine zCt.of (enc := zeM) h (by decide) hst (Nat.le_of_ble_eq_true rfl) (fun K hK0 hex hl _ => ?_)
  subst hl
  have hcx : zOk K Z b1_fail RX1 3 (none) 0 8 0 0 ∧ ∀ x ∈ K.2.2.2.2.2.2.2.2.2.exceptionTable.toList, False := ⟨hK0, hex⟩
  have hK := hcx.1
  show zG K Z (zΩ Z) (zF K Z (zΩ Z) zeM) 0 0 0 [(0, .ref (Z.2.2.1 + 99)), (1, .int (zi a1)), (2, .int (zi a2))] [] μ (f1_fail a1 a2 μ)
  unfold f1_fail
  refine g_aload_n hK 0 rfl rfl d1_fail_0 ?_
  refine g_iload_n hK 1 rfl rfl d1_fail_1 ?_
  refine g_putI hK zfin_1 (fa_1_6 kc_99) q_158 ha1 rfl (tyX1_ok 6 (by decide)) tyX1 tyX1_ok nmX1 d1_fail_2 ?_
  refine g_ltM (fun m1 => ?_)
  refine g_aload_n hK 0 rfl rfl d1_fail_5 ?_
  refine g_iload_n hK 2 rfl rfl d1_fail_6 ?_
  refine g_putI hK zfin_1 (fa_1_7 kc_99) q_160 ha2 rfl (tyX1_ok 7 (by decide)) tyX1 tyX1_ok nmX1 d1_fail_7 ?_
  refine g_ltM (fun m2 => ?_)
  exact g_vret hK rfl rfl d1_fail_10
set_option maxRecDepth 20000 in
theorem c1_isAt (l : Launch) (hst : l.stackTraces = false) (Z : zZ) (a1 : Int) (μ : zM) (ha1 : zr a1) : ∀ x, f1_isAt a1 μ = some x → zCt l Z (zΩ Z) y1_isAt (zws (.code y1_isAt b1_isAt 2 (some .boolean))) rm1_isAt [.ref (Z.2.2.1 + 99), .int (zi a1)] μ (zeP mkZ μ x) := by
  intro x h
  refine zCt.of (enc := (zeP mkZ μ)) h (by decide) hst (Nat.le_of_ble_eq_true rfl) (fun K hK0 hex hl _ => ?_)
  subst hl
  have hcx : zOk K Z b1_isAt RX1 2 (some .boolean) 0 8 0 0 ∧ ∀ x ∈ K.2.2.2.2.2.2.2.2.2.exceptionTable.toList, False := ⟨hK0, hex⟩
  have hK := hcx.1
  show zG K Z (zΩ Z) (zF K Z (zΩ Z) (zeP mkZ μ)) 0 0 0 [(0, .ref (Z.2.2.1 + 99)), (1, .int (zi a1))] [] μ (f1_isAt a1 μ)
  unfold f1_isAt
  refine g_aload_n hK 0 rfl rfl d1_isAt_0 ?_
  refine g_getI hK zfin_1 (fa_1_2 kc_99) q_153 d1_isAt_1 (fun hf1 => ?_)
  refine g_aload_n hK 0 rfl rfl d1_isAt_4 ?_
  refine g_getI hK zfin_1 (fa_1_1 kc_99) q_152 d1_isAt_5 (fun hf2 => ?_)
  refine g_icmp_ge hK hf1 hf2 (tgt := 28) (by decide) d1_isAt_8 (fun _ => ?_) (fun _ => ?_)
  · refine g_iconst hK d1_isAt_28 zki0 ?_
    exact g_zret hK (by decide) rfl rfl d1_isAt_29
  · refine g_aload_n hK 0 rfl rfl d1_isAt_11 ?_
    refine g_getM hK zfin_1 (fa_1_0 kc_99) q_151 (w := 100) (by decide) d1_isAt_12 (fun hm1 => ?_)
    refine g_aload_n hK 0 rfl rfl d1_isAt_15 ?_
    refine g_getI hK zfin_1 (fa_1_2 kc_99) q_153 d1_isAt_16 (fun hf3 => ?_)
    refine g_iald hK hm1 d1_isAt_19 (fun _ hl1 => ?_)
    refine g_iload_n hK 1 rfl rfl d1_isAt_20 ?_
    refine g_icmp_ne hK hl1 ha1 (tgt := 28) (by decide) d1_isAt_21 (fun _ => ?_) (fun _ => ?_)
    · refine g_iconst hK d1_isAt_28 zki0 ?_
      exact g_zret hK (by decide) rfl rfl d1_isAt_29
    · refine g_iconst hK d1_isAt_24 zki1 ?_
      refine g_goto hK (tgt := 29) (by decide) d1_isAt_25 ?_
      exact g_zret hK (by decide) rfl rfl d1_isAt_29
set_option maxRecDepth 20000 in
theorem p1_readHead_51 {K : zK} {Z : zZ} (hcx : zOk K Z b1_readHead RX1 4 (none) 2 56 0 0 ∧ ∀ x ∈ K.2.2.2.2.2.2.2.2.2.exceptionTable.toList, False) (a1 : Int) (ha1 : zr a1) (μ : zM) : zG K Z (zΩ Z) (zF K Z (zΩ Z) zeM) 0 0 51 [(0, .ref (Z.2.2.1 + 99))] [] μ (f1_readHead_51 a1 μ) := by
  obtain ⟨hK, hex⟩ := id hcx
  unfold f1_readHead_51
  refine g_aload_n hK 0 rfl rfl d1_readHead_51 ?_
  refine g_iconst hK d1_readHead_52 zki1 ?_
  refine g_aload_n hK 0 rfl rfl d1_readHead_53 ?_
  refine g_getI hK zfin_1 (fa_1_2 kc_99) q_153 d1_readHead_54 (fun hf9 => ?_)
  refine g_callVcm hK (rm := rm1_fail) (cb := 0) (sb := 0) (As := [.int (zi 1), .int (zi (zI μ 99 2))]) (b := 99) (n := 2) (c1_fail K.2.1 hK.2.2.2.2.2.2.2.2.1 Z 1 (zI μ 99 2) μ zc1 hf9) rfl (ci := 1) rfl (by decide) kc_99 q_400 q_402 qs_1_fail q_4 q_403 rfl (by decide +kernel) (by decide) (Nat.le_of_ble_eq_true rfl) (Nat.le_of_ble_eq_true rfl) (Nat.le_of_ble_eq_true rfl) rfl d1_readHead_57 (fun m6 hm6 => ?_)
  exact g_vret hK rfl rfl d1_readHead_60
set_option maxRecDepth 20000 in
theorem p1_readHead_144 {K : zK} {Z : zZ} (hcx : zOk K Z b1_readHead RX1 4 (none) 2 56 0 0 ∧ ∀ x ∈ K.2.2.2.2.2.2.2.2.2.exceptionTable.toList, False) (a1 : Int) (ha1 : zr a1) (x2 : Int) (s0 : Int) (s1 : Nat) (μ : zM) (hx2 : zr x2) (hs0 : zr s0) (hs1 : zkd s1 = 2) : zG K Z (zΩ Z) (zF K Z (zΩ Z) zeM) 0 0 144 [(0, .ref (Z.2.2.1 + 99)), (2, .int (zi x2))] [.int (zi s0), .ref (Z.2.2.1 + s1)] μ (f1_readHead_144 a1 x2 s0 s1 μ) := by
  obtain ⟨hK, hex⟩ := id hcx
  unfold f1_readHead_144
  refine g_callVcm hK (rm := rm2_clear) (cb := 0) (sb := 0) (As := [.int (zi s0)]) (b := s1) (n := 1) (c2_clear K.2.1 hK.2.2.2.2.2.2.2.2.1 Z s1 s0 μ hs1 hs0) rfl (ci := 2) rfl (by decide) hs1 q_412 q_413 q_414 q_3 q_415 rfl (by decide +kernel) (by decide) (Nat.le_of_ble_eq_true rfl) (Nat.le_of_ble_eq_true rfl) (Nat.le_of_ble_eq_true rfl) rfl d1_readHead_144 (fun m7 hm7 => ?_)
  refine g_aload_n hK 0 rfl rfl d1_readHead_147 ?_
  refine g_getM hK zfin_1 (fa_1_4 kc_99) q_155 (w := 2) (by decide) d1_readHead_148 (fun hm9 => ?_)
  refine g_aload_n hK 0 rfl rfl d1_readHead_151 ?_
  refine g_getM hK zfin_1 (fa_1_0 kc_99) q_151 (w := 100) (by decide) d1_readHead_152 (fun hm10 => ?_)
  refine g_aload_n hK 0 rfl rfl d1_readHead_155 ?_
  refine g_getI hK zfin_1 (fa_1_2 kc_99) q_153 d1_readHead_156 (fun hf10 => ?_)
  refine g_iload_n hK 1 rfl rfl d1_readHead_159 ?_
  refine g_callVcm hK (rm := rm2_setName) (cb := 0) (sb := 0) (As := [.ref (Z.2.2.1 + (zR m7 99 0)), .int (zi (zI m7 99 2)), .int (zi x2)]) (b := (zR m7 99 4)) (n := 3) (c2_setName K.2.1 hK.2.2.2.2.2.2.2.2.1 Z (zR m7 99 4) (zR m7 99 0) (zI m7 99 2) x2 m7 hm9 hm10 hf10 hx2) rfl (ci := 2) rfl (by decide) hm9 q_416 q_417 q_418 q_3 q_419 rfl (by decide +kernel) (by decide) (Nat.le_of_ble_eq_true rfl) (Nat.le_of_ble_eq_true rfl) (Nat.le_of_ble_eq_true rfl) rfl d1_readHead_160 (fun m8 hm8 => ?_)
  refine g_aload_n hK 0 rfl rfl d1_readHead_163 ?_
  refine g_dup hK d1_readHead_164 rfl ?_
  refine g_getI hK zfin_1 (fa_1_2 kc_99) q_153 d1_readHead_165 (fun hf11 => ?_)
  refine g_iload_n hK 1 rfl rfl d1_readHead_168 ?_
  refine g_iadd hK d1_readHead_169 (fun v3 hv3 => ?_)
  refine g_putI hK zfin_1 (fa_1_2 kc_99) q_153 hv3 rfl (tyX1_ok 2 (by decide)) tyX1 tyX1_ok nmX1 d1_readHead_170 ?_
  refine g_ltM (fun m9 => ?_)
  refine g_aload_n hK 0 rfl rfl d1_readHead_173 ?_
  refine g_callVcm hK (rm := rm1_skipBlanks) (cb := 0) (sb := 0) (As := []) (b := 99) (n := 0) (c1_skipBlanks K.2.1 hK.2.2.2.2.2.2.2.2.1 Z  m9 ) rfl (ci := 1) rfl (by decide) kc_99 q_335 q_337 qs_1_skipBlanks q_4 q_338 rfl (by decide +kernel) (by decide) (Nat.le_of_ble_eq_true rfl) (Nat.le_of_ble_eq_true rfl) (Nat.le_of_ble_eq_true rfl) rfl d1_readHead_174 (fun m10 hm10 => ?_)
  refine g_aload_n hK 0 rfl rfl d1_readHead_177 ?_
  refine g_bipush hK d1_readHead_178 zkb123 ?_
  refine g_callVco hK (mk := mkZ) (rm := rm1_isAt) (cb := 0) (sb := 0) (As := [.int (zi 123)]) (b := 99) (n := 1) (c1_isAt K.2.1 hK.2.2.2.2.2.2.2.2.1 Z 123 m10 zc123) rfl (ci := 1) rfl (by decide) kc_99 q_421 q_423 qs_1_isAt q_4 q_424 rfl (by decide +kernel) (by decide) (Nat.le_of_ble_eq_true rfl) (Nat.le_of_ble_eq_true rfl) (Nat.le_of_ble_eq_true rfl) rfl d1_readHead_180 (fun r3 hr3 hpr3 => ?_)
  refine g_if_ne hK (zb_r r3) (tgt := 196) (by decide) d1_readHead_183 (fun _ => ?_) (fun _ => ?_)
  · refine g_aload_n hK 0 rfl rfl d1_readHead_196 ?_
    refine g_dup hK d1_readHead_197 rfl ?_
    refine g_getI hK zfin_1 (fa_1_2 kc_99) q_153 d1_readHead_198 (fun hf12 => ?_)
    refine g_iconst hK d1_readHead_201 zki1 ?_
    refine g_iadd hK d1_readHead_202 (fun v4 hv4 => ?_)
    refine g_putI hK zfin_1 (fa_1_2 kc_99) q_153 hv4 rfl (tyX1_ok 2 (by decide)) tyX1 tyX1_ok nmX1 d1_readHead_203 ?_
    refine g_ltM (fun m11 => ?_)
    exact g_vret hK rfl rfl d1_readHead_206
  · refine g_aload_n hK 0 rfl rfl d1_readHead_186 ?_
    refine g_iconst hK d1_readHead_187 zki1 ?_
    refine g_aload_n hK 0 rfl rfl d1_readHead_188 ?_
    refine g_getI hK zfin_1 (fa_1_2 kc_99) q_153 d1_readHead_189 (fun hf13 => ?_)
    refine g_callVcm hK (rm := rm1_fail) (cb := 0) (sb := 0) (As := [.int (zi 1), .int (zi (zI m10 99 2))]) (b := 99) (n := 2) (c1_fail K.2.1 hK.2.2.2.2.2.2.2.2.1 Z 1 (zI m10 99 2) m10 zc1 hf13) rfl (ci := 1) rfl (by decide) kc_99 q_400 q_402 qs_1_fail q_4 q_403 rfl (by decide +kernel) (by decide) (Nat.le_of_ble_eq_true rfl) (Nat.le_of_ble_eq_true rfl) (Nat.le_of_ble_eq_true rfl) rfl d1_readHead_192 (fun m12 hm12 => ?_)
    exact g_vret hK rfl rfl d1_readHead_195
set_option maxRecDepth 20000 in
theorem c1_readHead (l : Launch) (hst : l.stackTraces = false) (Z : zZ) (a1 : Int) (μ : zM) (ha1 : zr a1) : ∀ x, f1_readHead a1 μ = some x → zCt l Z (zΩ Z) y1_readHead (zws (.code y1_readHead b1_readHead 4 (none))) rm1_readHead [.ref (Z.2.2.1 + 99), .int (zi a1)] μ (zeM x) := by
  intro x h
  refine zCt.of (enc := zeM) h (by decide) hst (Nat.le_of_ble_eq_true rfl) (fun K hK0 hex hl _ => ?_)
  subst hl
  have hcx : zOk K Z b1_readHead RX1 4 (none) 2 56 0 0 ∧ ∀ x ∈ K.2.2.2.2.2.2.2.2.2.exceptionTable.toList, False := ⟨hK0, hex⟩
  have hK := hcx.1
  show zG K Z (zΩ Z) (zF K Z (zΩ Z) zeM) 0 0 0 [(0, .ref (Z.2.2.1 + 99)), (1, .int (zi a1))] [] μ (f1_readHead a1 μ)
  unfold f1_readHead
  refine g_aload_n hK 0 rfl rfl d1_readHead_0 ?_
  refine g_getM hK zfin_1 (fa_1_3 kc_99) q_154 (w := 0) (by decide) d1_readHead_1 (fun hm1 => ?_)
  refine g_getI hK zfin_0 (fa_0_1 hm1) q_132 d1_readHead_4 (fun hf1 => ?_)
  refine g_bipush hK d1_readHead_7 zkb8 ?_
  refine g_icmp_lt hK hf1 zc8 (tgt := 22) (by decide) d1_readHead_9 (fun _ => ?_) (fun _ => ?_)
  · refine g_aload_n hK 0 rfl rfl d1_readHead_22 ?_
    refine g_iload_n hK 1 rfl rfl d1_readHead_23 ?_
    refine g_putI hK zfin_1 (fa_1_2 kc_99) q_153 ha1 rfl (tyX1_ok 2 (by decide)) tyX1 tyX1_ok nmX1 d1_readHead_24 ?_
    refine g_ltM (fun m1 => ?_)
    refine g_aload_n hK 0 rfl rfl d1_readHead_27 ?_
    refine g_callVcm hK (rm := rm1_skipBlanks) (cb := 0) (sb := 0) (As := []) (b := 99) (n := 0) (c1_skipBlanks K.2.1 hK.2.2.2.2.2.2.2.2.1 Z  m1 ) rfl (ci := 1) rfl (by decide) kc_99 q_335 q_337 qs_1_skipBlanks q_4 q_338 rfl (by decide +kernel) (by decide) (Nat.le_of_ble_eq_true rfl) (Nat.le_of_ble_eq_true rfl) (Nat.le_of_ble_eq_true rfl) rfl d1_readHead_28 (fun m2 hm2 => ?_)
    refine g_aload_n hK 0 rfl rfl d1_readHead_31 ?_
    refine g_callVco hK (mk := mkI) (rm := rm1_endOfWord) (cb := 0) (sb := 0) (As := []) (b := 99) (n := 0) (c1_endOfWord K.2.1 hK.2.2.2.2.2.2.2.2.1 Z  m2 ) rfl (ci := 1) rfl (by decide) kc_99 q_339 q_341 qs_1_endOfWord q_4 q_342 rfl (by decide +kernel) (by decide) (Nat.le_of_ble_eq_true rfl) (Nat.le_of_ble_eq_true rfl) (Nat.le_of_ble_eq_true rfl) rfl d1_readHead_32 (fun r1 hr1 hpr1 => ?_)
    refine g_aload_n hK 0 rfl rfl d1_readHead_35 ?_
    refine g_getI hK zfin_1 (fa_1_2 kc_99) q_153 d1_readHead_36 (fun hf2 => ?_)
    refine g_isub hK d1_readHead_39 (fun v1 hv1 => ?_)
    refine g_istore_n hK (lv2 := [(0, .ref (Z.2.2.1 + 99)), (1, .int (zi a1)), (2, .int (zi v1))]) [1, 2, 0] rfl rfl (by decide) d1_readHead_40 ?_
    refine g_iload_n hK 2 rfl rfl d1_readHead_41 ?_
    refine g_if_eq hK hv1 (tgt := 51) (by decide) d1_readHead_42 (fun _ => ?_) (fun _ => ?_)
    · refine g_lv (lv2 := [(0, .ref (Z.2.2.1 + 99))]) [0] rfl ?_
      exact p1_readHead_51 hcx a1 ha1   m2 
    · refine g_iload_n hK 2 rfl rfl d1_readHead_45 ?_
      refine g_bipush hK d1_readHead_46 zkb8 ?_
      refine g_icmp_le hK hv1 zc8 (tgt := 61) (by decide) d1_readHead_48 (fun _ => ?_) (fun _ => ?_)
      · refine g_aload_n hK 0 rfl rfl d1_readHead_61 ?_
        refine g_getM hK zfin_1 (fa_1_3 kc_99) q_154 (w := 0) (by decide) d1_readHead_62 (fun hm2 => ?_)
        refine g_aload_n hK 0 rfl rfl d1_readHead_65 ?_
        refine g_getM hK zfin_1 (fa_1_0 kc_99) q_151 (w := 100) (by decide) d1_readHead_66 (fun hm3 => ?_)
        refine g_aload_n hK 0 rfl rfl d1_readHead_69 ?_
        refine g_getI hK zfin_1 (fa_1_2 kc_99) q_153 d1_readHead_70 (fun hf3 => ?_)
        refine g_iload_n hK 2 rfl rfl d1_readHead_73 ?_
        refine g_callVco hK (mk := mkI) (rm := rm0_indexOf) (cb := 0) (sb := 0) (As := [.ref (Z.2.2.1 + (zR m2 99 0)), .int (zi (zI m2 99 2)), .int (zi v1)]) (b := (zR m2 99 3)) (n := 3) (c0_indexOf K.2.1 hK.2.2.2.2.2.2.2.2.1 Z (zR m2 99 3) (zR m2 99 0) (zI m2 99 2) v1 m2 hm2 hm3 hf3 hv1) rfl (ci := 0) rfl (by decide) hm2 q_404 q_405 q_406 q_2 q_407 rfl (by decide +kernel) (by decide) (Nat.le_of_ble_eq_true rfl) (Nat.le_of_ble_eq_true rfl) (Nat.le_of_ble_eq_true rfl) rfl d1_readHead_74 (fun r2 hr2 hpr2 => ?_)
        refine g_iconst hK d1_readHead_77 zkim1 ?_
        refine g_icmp_eq hK hpr2 zcm1 (tgt := 91) (by decide) d1_readHead_78 (fun _ => ?_) (fun _ => ?_)
        · refine g_aload_n hK 0 rfl rfl d1_readHead_91 ?_
          refine g_getM hK zfin_1 (fa_1_3 kc_99) q_154 (w := 0) (by decide) d1_readHead_92 (fun hm4 => ?_)
          refine g_getI hK zfin_0 (fa_0_1 hm4) q_132 d1_readHead_95 (fun hf4 => ?_)
          refine g_iconst hK d1_readHead_98 zki1 ?_
          refine g_isub hK d1_readHead_99 (fun v2 hv2 => ?_)
          refine g_istore_n hK (lv2 := [(0, .ref (Z.2.2.1 + 99)), (1, .int (zi a1)), (2, .int (zi v1)), (3, .int (zi v2))]) [1, 2, 3, 0] rfl rfl (by decide) d1_readHead_100 ?_
          refine g_aload_n hK 0 rfl rfl d1_readHead_101 ?_
          refine g_aload_n hK 0 rfl rfl d1_readHead_102 ?_
          refine g_getM hK zfin_1 (fa_1_3 kc_99) q_154 (w := 0) (by decide) d1_readHead_103 (fun hm5 => ?_)
          refine g_getR hK zfin_0 (fa_0_0 hm5) q_129 (pt_0_snippets hm5) d1_readHead_106 ?_
          refine g_aload_n hK 0 rfl rfl d1_readHead_109 ?_
          refine g_getM hK zfin_1 (fa_1_3 kc_99) q_154 (w := 0) (by decide) d1_readHead_110 (fun hm6 => ?_)
          refine g_getI hK zfin_0 (fa_0_1 hm6) q_132 d1_readHead_113 (fun hf5 => ?_)
          refine g_aald105 hK (g := fun i => (((zR m2 99 3) + 4) + 11 * i)) (pt_0_snippets_k hm5) (zlib_el hm5) d1_readHead_116 (fun hz1 => ?_)
          have he1 : zkd (((zR m2 99 3) + 4) + 11 * (zx (zI m2 (zR m2 99 3) 1))) = 2 := (zlib_ek hm5) _ (zx_lt hz1)
          refine g_putR hK (r := (((zR m2 99 3) + 4) + 11 * (zx (zI m2 (zR m2 99 3) 1)))) (w := 2) zfin_1 (fa_1_4 kc_99) q_155 (by decide +kernel) (by decide) he1 (zkd_ne0 he1 (by decide)) (fun _ => rfl) (fun _ => rfl) rfl (tyX1_ok 4 (by decide)) tyX1 tyX1_ok nmX1 d1_readHead_117 ?_
          refine g_ltM (fun m3 => ?_)
          refine g_aload_n hK 0 rfl rfl d1_readHead_120 ?_
          refine g_getM hK zfin_1 (fa_1_4 kc_99) q_155 (w := 2) (by decide) d1_readHead_121 (fun hm7 => ?_)
          refine g_iload_n hK 3 rfl rfl d1_readHead_124 ?_
          refine g_if_ge hK hv2 (tgt := 132) (by decide) d1_readHead_125 (fun _ => ?_) (fun _ => ?_)
          · refine g_aload_n hK 0 rfl rfl d1_readHead_132 ?_
            refine g_getM hK zfin_1 (fa_1_3 kc_99) q_154 (w := 0) (by decide) d1_readHead_133 (fun hm8 => ?_)
            refine g_getR hK zfin_0 (fa_0_0 hm8) q_129 (pt_0_snippets hm8) d1_readHead_136 ?_
            refine g_iload_n hK 3 rfl rfl d1_readHead_139 ?_
            refine g_aald105 hK (g := fun i => (((zR m3 99 3) + 4) + 11 * i)) (pt_0_snippets_k hm8) (zlib_el hm8) d1_readHead_140 (fun hz2 => ?_)
            have he2 : zkd (((zR m3 99 3) + 4) + 11 * (zx v2)) = 2 := (zlib_ek hm8) _ (zx_lt hz2)
            refine g_getI hK zfin_2 (fa_2_16 he2) q_90 d1_readHead_141 (fun hf6 => ?_)
            refine g_lv (lv2 := [(0, .ref (Z.2.2.1 + 99)), (2, .int (zi v1))]) [0, 2] rfl ?_
            exact p1_readHead_144 hcx a1 ha1  v1 (zI m3 (((zR m3 99 3) + 4) + 11 * (zx v2)) 16) (zR m3 99 4) m3 hv1 hf6 hm7
          · refine g_iconst hK d1_readHead_128 zki0 ?_
            refine g_goto hK (tgt := 144) (by decide) d1_readHead_129 ?_
            refine g_lv (lv2 := [(0, .ref (Z.2.2.1 + 99)), (2, .int (zi v1))]) [0, 2] rfl ?_
            exact p1_readHead_144 hcx a1 ha1  v1 0 (zR m3 99 4) m3 hv1 zc0 hm7
        · refine g_aload_n hK 0 rfl rfl d1_readHead_81 ?_
          refine g_iconst hK d1_readHead_82 zki3 ?_
          refine g_aload_n hK 0 rfl rfl d1_readHead_83 ?_
          refine g_getI hK zfin_1 (fa_1_2 kc_99) q_153 d1_readHead_84 (fun hf7 => ?_)
          refine g_callVcm hK (rm := rm1_fail) (cb := 0) (sb := 0) (As := [.int (zi 3), .int (zi (zI m2 99 2))]) (b := 99) (n := 2) (c1_fail K.2.1 hK.2.2.2.2.2.2.2.2.1 Z 3 (zI m2 99 2) m2 zc3 hf7) rfl (ci := 1) rfl (by decide) kc_99 q_400 q_402 qs_1_fail q_4 q_403 rfl (by decide +kernel) (by decide) (Nat.le_of_ble_eq_true rfl) (Nat.le_of_ble_eq_true rfl) (Nat.le_of_ble_eq_true rfl) rfl d1_readHead_87 (fun m4 hm4 => ?_)
          exact g_vret hK rfl rfl d1_readHead_90
      · refine g_lv (lv2 := [(0, .ref (Z.2.2.1 + 99))]) [0] rfl ?_
        exact p1_readHead_51 hcx a1 ha1   m2 
  · refine g_aload_n hK 0 rfl rfl d1_readHead_12 ?_
    refine g_iconst hK d1_readHead_13 zki5 ?_
    refine g_aload_n hK 0 rfl rfl d1_readHead_14 ?_
    refine g_getI hK zfin_1 (fa_1_2 kc_99) q_153 d1_readHead_15 (fun hf8 => ?_)
    refine g_callVcm hK (rm := rm1_fail) (cb := 0) (sb := 0) (As := [.int (zi 5), .int (zi (zI μ 99 2))]) (b := 99) (n := 2) (c1_fail K.2.1 hK.2.2.2.2.2.2.2.2.1 Z 5 (zI μ 99 2) μ zc5 hf8) rfl (ci := 1) rfl (by decide) kc_99 q_400 q_402 qs_1_fail q_4 q_403 rfl (by decide +kernel) (by decide) (Nat.le_of_ble_eq_true rfl) (Nat.le_of_ble_eq_true rfl) (Nat.le_of_ble_eq_true rfl) rfl d1_readHead_18 (fun m5 hm5 => ?_)
    exact g_vret hK rfl rfl d1_readHead_21
set_option maxRecDepth 20000 in
theorem c1_closePart (l : Launch) (hst : l.stackTraces = false) (Z : zZ) (μ : zM) : ∀ x, f1_closePart μ = some x → zCt l Z (zΩ Z) y1_closePart (zws (.code y1_closePart b1_closePart 1 (none))) rm1_closePart [.ref (Z.2.2.1 + 99)] μ (zeM x) := by
  intro x h
  refine zCt.of (enc := zeM) h (by decide) hst (Nat.le_of_ble_eq_true rfl) (fun K hK0 hex hl _ => ?_)
  subst hl
  have hcx : zOk K Z b1_closePart RX1 1 (none) 0 8 0 0 ∧ ∀ x ∈ K.2.2.2.2.2.2.2.2.2.exceptionTable.toList, False := ⟨hK0, hex⟩
  have hK := hcx.1
  show zG K Z (zΩ Z) (zF K Z (zΩ Z) zeM) 0 0 0 [(0, .ref (Z.2.2.1 + 99))] [] μ (f1_closePart μ)
  unfold f1_closePart
  refine g_aload_n hK 0 rfl rfl d1_closePart_0 ?_
  refine g_dup hK d1_closePart_1 rfl ?_
  refine g_getI hK zfin_1 (fa_1_2 kc_99) q_153 d1_closePart_2 (fun hf1 => ?_)
  refine g_iconst hK d1_closePart_5 zki1 ?_
  refine g_iadd hK d1_closePart_6 (fun v1 hv1 => ?_)
  refine g_putI hK zfin_1 (fa_1_2 kc_99) q_153 hv1 rfl (tyX1_ok 2 (by decide)) tyX1 tyX1_ok nmX1 d1_closePart_7 ?_
  refine g_ltM (fun m1 => ?_)
  refine g_aload_n hK 0 rfl rfl d1_closePart_10 ?_
  refine g_getI hK zfin_1 (fa_1_5 kc_99) q_156 d1_closePart_11 (fun hf2 => ?_)
  refine g_iconst hK d1_closePart_14 zkim1 ?_
  refine g_icmp_eq hK hf2 zcm1 (tgt := 53) (by decide) d1_closePart_15 (fun _ => ?_) (fun _ => ?_)
  · exact g_vret hK rfl rfl d1_closePart_53
  · refine g_aload_n hK 0 rfl rfl d1_closePart_18 ?_
    refine g_getM hK zfin_1 (fa_1_4 kc_99) q_155 (w := 2) (by decide) d1_closePart_19 (fun hm1 => ?_)
    refine g_getR hK zfin_2 (fa_2_14 hm1) q_87 (pt_2_endOfDefault hm1) d1_closePart_22 ?_
    refine g_aload_n hK 0 rfl rfl d1_closePart_25 ?_
    refine g_getI hK zfin_1 (fa_1_5 kc_99) q_156 d1_closePart_26 (fun hf3 => ?_)
    refine g_aload_n hK 0 rfl rfl d1_closePart_29 ?_
    refine g_getM hK zfin_1 (fa_1_4 kc_99) q_155 (w := 2) (by decide) d1_closePart_30 (fun hm2 => ?_)
    refine g_getI hK zfin_2 (fa_2_16 hm2) q_90 d1_closePart_33 (fun hf4 => ?_)
    refine g_iast hK hf4 (pt_2_endOfDefault_k hm1) d1_closePart_36 (fun _ => ?_)
    refine g_ltM (fun m2 => ?_)
    refine g_aload_n hK 0 rfl rfl d1_closePart_37 ?_
    refine g_aload_n hK 0 rfl rfl d1_closePart_38 ?_
    refine g_getM hK zfin_1 (fa_1_4 kc_99) q_155 (w := 2) (by decide) d1_closePart_39 (fun hm3 => ?_)
    refine g_getR hK zfin_2 (fa_2_7 hm3) q_71 (pt_2_parents hm3) d1_closePart_42 ?_
    refine g_aload_n hK 0 rfl rfl d1_closePart_45 ?_
    refine g_getI hK zfin_1 (fa_1_5 kc_99) q_156 d1_closePart_46 (fun hf5 => ?_)
    refine g_iald hK (pt_2_parents_k hm3) d1_closePart_49 (fun _ hl1 => ?_)
    refine g_putI hK zfin_1 (fa_1_5 kc_99) q_156 hl1 rfl (tyX1_ok 5 (by decide)) tyX1 tyX1_ok nmX1 d1_closePart_50 ?_
    refine g_ltM (fun m3 => ?_)
    exact g_vret hK rfl rfl d1_closePart_53
set_option maxRecDepth 20000 in
theorem p1_readField_94 {K : zK} {Z : zZ} (hcx : zOk K Z b1_readField RX1 3 (some .int) 1 32 0 0 ∧ ∀ x ∈ K.2.2.2.2.2.2.2.2.2.exceptionTable.toList, False) (a1 : Int) (ha1 : zr a1) (x2 : Int) (μ : zM) (hx2 : zr x2) : zG K Z (zΩ Z) (zF K Z (zΩ Z) (ze2 mkI)) 0 0 94 [(0, .ref (Z.2.2.1 + 99)), (2, .int (zi x2))] [] μ (f1_readField_94 a1 x2 μ) := by
  obtain ⟨hK, hex⟩ := id hcx
  unfold f1_readField_94
  refine g_aload_n hK 0 rfl rfl d1_readField_94 ?_
  refine g_getM hK zfin_1 (fa_1_4 kc_99) q_155 (w := 2) (by decide) d1_readField_95 (fun hm6 => ?_)
  refine g_iload_n hK 1 rfl rfl d1_readField_98 ?_
  refine g_aload_n hK 0 rfl rfl d1_readField_99 ?_
  refine g_getI hK zfin_1 (fa_1_5 kc_99) q_156 d1_readField_100 (fun hf7 => ?_)
  refine g_callVcl hK (mk := mkI) (rm := rm2_addOccurrence) (cb := 0) (sb := 0) (As := [.int (zi x2), .int (zi (zI μ 99 5))]) (b := (zR μ 99 4)) (n := 2) (c2_addOccurrence K.2.1 hK.2.2.2.2.2.2.2.2.1 Z (zR μ 99 4) x2 (zI μ 99 5) μ hm6 hx2 hf7) rfl (ci := 2) rfl (by decide) hm6 q_453 q_454 q_455 q_3 q_456 rfl (by decide +kernel) (by decide) (Nat.le_of_ble_eq_true rfl) (Nat.le_of_ble_eq_true rfl) (Nat.le_of_ble_eq_true rfl) rfl d1_readField_103 (fun r2 m5 hr2 hpr2 => ?_)
  exact g_iret hK hpr2 rfl rfl d1_readField_106
set_option maxRecDepth 20000 in
theorem c1_readField (l : Launch) (hst : l.stackTraces = false) (Z : zZ) (a1 : Int) (μ : zM) (ha1 : zr a1) : ∀ x, f1_readField a1 μ = some x → zCt l Z (zΩ Z) y1_readField (zws (.code y1_readField b1_readField 3 (some .int))) rm1_readField [.ref (Z.2.2.1 + 99), .int (zi a1)] μ (ze2 mkI x) := by
  intro x h
  refine zCt.of (enc := (ze2 mkI)) h (by decide) hst (Nat.le_of_ble_eq_true rfl) (fun K hK0 hex hl _ => ?_)
  subst hl
  have hcx : zOk K Z b1_readField RX1 3 (some .int) 1 32 0 0 ∧ ∀ x ∈ K.2.2.2.2.2.2.2.2.2.exceptionTable.toList, False := ⟨hK0, hex⟩
  have hK := hcx.1
  show zG K Z (zΩ Z) (zF K Z (zΩ Z) (ze2 mkI)) 0 0 0 [(0, .ref (Z.2.2.1 + 99)), (1, .int (zi a1))] [] μ (f1_readField a1 μ)
  unfold f1_readField
  refine g_aload_n hK 0 rfl rfl d1_readField_0 ?_
  refine g_getM hK zfin_1 (fa_1_0 kc_99) q_151 (w := 100) (by decide) d1_readField_1 (fun hm1 => ?_)
  refine g_aload_n hK 0 rfl rfl d1_readField_4 ?_
  refine g_getI hK zfin_1 (fa_1_2 kc_99) q_153 d1_readField_5 (fun hf1 => ?_)
  refine g_iald hK hm1 d1_readField_8 (fun _ hl1 => ?_)
  refine g_bipush hK d1_readField_9 zkb48 ?_
  refine g_isub hK d1_readField_11 (fun v1 hv1 => ?_)
  refine g_istore_n hK (lv2 := [(0, .ref (Z.2.2.1 + 99)), (1, .int (zi a1)), (2, .int (zi v1))]) [1, 2, 0] rfl rfl (by decide) d1_readField_12 ?_
  refine g_aload_n hK 0 rfl rfl d1_readField_13 ?_
  refine g_getM hK zfin_1 (fa_1_4 kc_99) q_155 (w := 2) (by decide) d1_readField_14 (fun hm2 => ?_)
  refine g_iload_n hK 2 rfl rfl d1_readField_17 ?_
  refine g_aload_n hK 0 rfl rfl d1_readField_18 ?_
  refine g_getI hK zfin_1 (fa_1_5 kc_99) q_156 d1_readField_19 (fun hf2 => ?_)
  refine g_callVco hK (mk := mkZ) (rm := rm2_wouldDependOnItself) (cb := 0) (sb := 0) (As := [.int (zi v1), .int (zi (zI μ 99 5))]) (b := (zR μ 99 4)) (n := 2) (c2_wouldDependOnItself K.2.1 hK.2.2.2.2.2.2.2.2.1 Z (zR μ 99 4) v1 (zI μ 99 5) μ hm2 hv1 hf2) rfl (ci := 2) rfl (by decide) hm2 q_445 q_446 q_447 q_3 q_448 rfl (by decide +kernel) (by decide) (Nat.le_of_ble_eq_true rfl) (Nat.le_of_ble_eq_true rfl) (Nat.le_of_ble_eq_true rfl) rfl d1_readField_22 (fun r1 hr1 hpr1 => ?_)
  refine g_if_eq hK (zb_r r1) (tgt := 36) (by decide) d1_readField_25 (fun _ => ?_) (fun _ => ?_)
  · refine g_aload_n hK 0 rfl rfl d1_readField_36 ?_
    refine g_getM hK zfin_1 (fa_1_4 kc_99) q_155 (w := 2) (by decide) d1_readField_37 (fun hm3 => ?_)
    refine g_getI hK zfin_2 (fa_2_2 hm3) q_53 d1_readField_40 (fun hf3 => ?_)
    refine g_bipush hK d1_readField_43 zkb60 ?_
    refine g_icmp_lt hK hf3 zc60 (tgt := 56) (by decide) d1_readField_45 (fun _ => ?_) (fun _ => ?_)
    · refine g_aload_n hK 0 rfl rfl d1_readField_56 ?_
      refine g_dup hK d1_readField_57 rfl ?_
      refine g_getI hK zfin_1 (fa_1_2 kc_99) q_153 d1_readField_58 (fun hf4 => ?_)
      refine g_iconst hK d1_readField_61 zki1 ?_
      refine g_iadd hK d1_readField_62 (fun v2 hv2 => ?_)
      refine g_putI hK zfin_1 (fa_1_2 kc_99) q_153 hv2 rfl (tyX1_ok 2 (by decide)) tyX1 tyX1_ok nmX1 d1_readField_63 ?_
      refine g_ltM (fun m1 => ?_)
      refine g_aload_n hK 0 rfl rfl d1_readField_66 ?_
      refine g_getI hK zfin_1 (fa_1_5 kc_99) q_156 d1_readField_67 (fun hf5 => ?_)
      refine g_iconst hK d1_readField_70 zkim1 ?_
      refine g_icmp_eq hK hf5 zcm1 (tgt := 94) (by decide) d1_readField_71 (fun _ => ?_) (fun _ => ?_)
      · refine g_lv (lv2 := [(0, .ref (Z.2.2.1 + 99)), (2, .int (zi v1))]) [0, 2] rfl ?_
        exact p1_readField_94 hcx a1 ha1  v1 m1 hv1
      · refine g_aload_n hK 0 rfl rfl d1_readField_74 ?_
        refine g_getM hK zfin_1 (fa_1_4 kc_99) q_155 (w := 2) (by decide) d1_readField_75 (fun hm4 => ?_)
        refine g_aload_n hK 0 rfl rfl d1_readField_78 ?_
        refine g_getM hK zfin_1 (fa_1_4 kc_99) q_155 (w := 2) (by decide) d1_readField_79 (fun hm5 => ?_)
        refine g_getR hK zfin_2 (fa_2_4 hm5) q_59 (pt_2_fields hm5) d1_readField_82 ?_
        refine g_aload_n hK 0 rfl rfl d1_readField_85 ?_
        refine g_getI hK zfin_1 (fa_1_5 kc_99) q_156 d1_readField_86 (fun hf6 => ?_)
        refine g_iald hK (pt_2_fields_k hm5) d1_readField_89 (fun _ hl2 => ?_)
        refine g_iload_n hK 2 rfl rfl d1_readField_90 ?_
        refine g_callVcm hK (rm := rm2_addDependence) (cb := 0) (sb := 0) (As := [.int (zi (zI m1 (zsb (zR m1 99 4) + 2) (zx (zI m1 99 5)))), .int (zi v1)]) (b := (zR m1 99 4)) (n := 2) (c2_addDependence K.2.1 hK.2.2.2.2.2.2.2.2.1 Z (zR m1 99 4) (zI m1 (zsb (zR m1 99 4) + 2) (zx (zI m1 99 5))) v1 m1 hm4 hl2 hv1) rfl (ci := 2) rfl (by decide) hm4 q_449 q_450 q_451 q_3 q_452 rfl (by decide +kernel) (by decide) (Nat.le_of_ble_eq_true rfl) (Nat.le_of_ble_eq_true rfl) (Nat.le_of_ble_eq_true rfl) rfl d1_readField_91 (fun m2 hm2 => ?_)
        refine g_lv (lv2 := [(0, .ref (Z.2.2.1 + 99)), (2, .int (zi v1))]) [0, 2] rfl ?_
        exact p1_readField_94 hcx a1 ha1  v1 m2 hv1
    · refine g_aload_n hK 0 rfl rfl d1_readField_48 ?_
      refine g_iconst hK d1_readField_49 zki5 ?_
      refine g_iload_n hK 1 rfl rfl d1_readField_50 ?_
      refine g_callVcm hK (rm := rm1_fail) (cb := 0) (sb := 0) (As := [.int (zi 5), .int (zi a1)]) (b := 99) (n := 2) (c1_fail K.2.1 hK.2.2.2.2.2.2.2.2.1 Z 5 a1 μ zc5 ha1) rfl (ci := 1) rfl (by decide) kc_99 q_400 q_402 qs_1_fail q_4 q_403 rfl (by decide +kernel) (by decide) (Nat.le_of_ble_eq_true rfl) (Nat.le_of_ble_eq_true rfl) (Nat.le_of_ble_eq_true rfl) rfl d1_readField_51 (fun m3 hm3 => ?_)
      refine g_iconst hK d1_readField_54 zkim1 ?_
      exact g_iret hK zcm1 rfl rfl d1_readField_55
  · refine g_aload_n hK 0 rfl rfl d1_readField_28 ?_
    refine g_iconst hK d1_readField_29 zki4 ?_
    refine g_iload_n hK 1 rfl rfl d1_readField_30 ?_
    refine g_callVcm hK (rm := rm1_fail) (cb := 0) (sb := 0) (As := [.int (zi 4), .int (zi a1)]) (b := 99) (n := 2) (c1_fail K.2.1 hK.2.2.2.2.2.2.2.2.1 Z 4 a1 μ zc4 ha1) rfl (ci := 1) rfl (by decide) kc_99 q_400 q_402 qs_1_fail q_4 q_403 rfl (by decide +kernel) (by decide) (Nat.le_of_ble_eq_true rfl) (Nat.le_of_ble_eq_true rfl) (Nat.le_of_ble_eq_true rfl) rfl d1_readField_31 (fun m4 hm4 => ?_)
    refine g_iconst hK d1_readField_34 zkim1 ?_
    exact g_iret hK zcm1 rfl rfl d1_readField_35
set_option maxRecDepth 20000 in
theorem c1_changeOf (l : Launch) (hst : l.stackTraces = false) (Z : zZ) (a1 : Int) (μ : zM) (ha1 : zr a1) : ∀ x, f1_changeOf a1 = some x → zCt l Z (zΩ Z) y1_changeOf (zws (.code y1_changeOf b1_changeOf 1 (some .int))) rm1_changeOf [.int (zi a1)] μ (zeP mkI μ x) := by
  intro x h
  refine zCt.of (enc := (zeP mkI μ)) h (by decide) hst (Nat.le_of_ble_eq_true rfl) (fun K hK0 hex hl _ => ?_)
  subst hl
  have hcx : zOk K Z b1_changeOf RX1 1 (some .int) 0 8 0 0 ∧ ∀ x ∈ K.2.2.2.2.2.2.2.2.2.exceptionTable.toList, False := ⟨hK0, hex⟩
  have hK := hcx.1
  show zG K Z (zΩ Z) (zF K Z (zΩ Z) (zeP mkI μ)) 0 0 0 [(0, .int (zi a1))] [] μ (f1_changeOf a1)
  unfold f1_changeOf
  refine g_iload_n hK 0 rfl rfl d1_changeOf_0 ?_
  refine g_case (fun hs102 => ?_) (fun hs102 => ?_)
  · refine g_lookup hK (tgt := 58) ha1 (by decide) (show _ = 57 from by rw [hs102]; rfl) (by decide) d1_changeOf_1 ?_
    refine g_iconst hK d1_changeOf_58 zki4 ?_
    exact g_iret hK zc4 rfl rfl d1_changeOf_59
  refine g_case (fun hs108 => ?_) (fun hs108 => ?_)
  · refine g_lookup hK (tgt := 54) ha1 (by decide) (show _ = 53 from by rw [hs108]; rfl) (by decide) d1_changeOf_1 ?_
    refine g_iconst hK d1_changeOf_54 zki2 ?_
    exact g_iret hK zc2 rfl rfl d1_changeOf_55
  refine g_case (fun hs110 => ?_) (fun hs110 => ?_)
  · refine g_lookup hK (tgt := 60) ha1 (by decide) (show _ = 59 from by rw [hs110]; rfl) (by decide) d1_changeOf_1 ?_
    refine g_iconst hK d1_changeOf_60 zki5 ?_
    exact g_iret hK zc5 rfl rfl d1_changeOf_61
  refine g_case (fun hs114 => ?_) (fun hs114 => ?_)
  · refine g_lookup hK (tgt := 56) ha1 (by decide) (show _ = 55 from by rw [hs114]; rfl) (by decide) d1_changeOf_1 ?_
    refine g_iconst hK d1_changeOf_56 zki3 ?_
    exact g_iret hK zc3 rfl rfl d1_changeOf_57
  refine g_case (fun hs117 => ?_) (fun hs117 => ?_)
  · refine g_lookup hK (tgt := 52) ha1 (by decide) (show _ = 51 from by rw [hs117]; rfl) (by decide) d1_changeOf_1 ?_
    refine g_iconst hK d1_changeOf_52 zki1 ?_
    exact g_iret hK zc1 rfl rfl d1_changeOf_53
  refine g_lookup hK (tgt := 62) ha1 (by decide) (show _ = 61 from by simp [Op.lookupswitch.offset, hs102, Ne.symm hs102, hs108, Ne.symm hs108, hs110, Ne.symm hs110, hs114, Ne.symm hs114, hs117, Ne.symm hs117]) (by decide) d1_changeOf_1 ?_
  refine g_iconst hK d1_changeOf_62 zki0 ?_
  exact g_iret hK zc0 rfl rfl d1_changeOf_63
set_option maxRecDepth 20000 in
theorem p1_readChange_27 {K : zK} {Z : zZ} (hcx : zOk K Z b1_readChange RX1 3 (none) 1 30 0 0 ∧ ∀ x ∈ K.2.2.2.2.2.2.2.2.2.exceptionTable.toList, False) (a1 : Int) (ha1 : zr a1) (s0 : Int) (μ : zM) (hs0 : zr s0) : zG K Z (zΩ Z) (zF K Z (zΩ Z) zeM) 0 0 27 [(0, .ref (Z.2.2.1 + 99)), (1, .int (zi a1))] [.int (zi s0)] μ (f1_readChange_27 a1 s0 μ) := by
  obtain ⟨hK, hex⟩ := id hcx
  unfold f1_readChange_27
  refine g_istore_n hK (lv2 := [(0, .ref (Z.2.2.1 + 99)), (1, .int (zi a1)), (2, .int (zi s0))]) [1, 2, 0] rfl rfl (by decide) d1_readChange_27 ?_
  refine g_iload_n hK 2 rfl rfl d1_readChange_28 ?_
  refine g_if_ne hK hs0 (tgt := 42) (by decide) d1_readChange_29 (fun _ => ?_) (fun _ => ?_)
  · refine g_aload_n hK 0 rfl rfl d1_readChange_42 ?_
    refine g_dup hK d1_readChange_43 rfl ?_
    refine g_getI hK zfin_1 (fa_1_2 kc_99) q_153 d1_readChange_44 (fun hf4 => ?_)
    refine g_iconst hK d1_readChange_47 zki1 ?_
    refine g_iadd hK d1_readChange_48 (fun v1 hv1 => ?_)
    refine g_putI hK zfin_1 (fa_1_2 kc_99) q_153 hv1 rfl (tyX1_ok 2 (by decide)) tyX1 tyX1_ok nmX1 d1_readChange_49 ?_
    refine g_ltM (fun m1 => ?_)
    refine g_aload_n hK 0 rfl rfl d1_readChange_52 ?_
    refine g_bipush hK d1_readChange_53 zkb125 ?_
    refine g_callVco hK (mk := mkZ) (rm := rm1_isAt) (cb := 0) (sb := 0) (As := [.int (zi 125)]) (b := 99) (n := 1) (c1_isAt K.2.1 hK.2.2.2.2.2.2.2.2.1 Z 125 m1 zc125) rfl (ci := 1) rfl (by decide) kc_99 q_421 q_423 qs_1_isAt q_4 q_424 rfl (by decide +kernel) (by decide) (Nat.le_of_ble_eq_true rfl) (Nat.le_of_ble_eq_true rfl) (Nat.le_of_ble_eq_true rfl) rfl d1_readChange_55 (fun r2 hr2 hpr2 => ?_)
    refine g_if_ne hK (zb_r r2) (tgt := 71) (by decide) d1_readChange_58 (fun _ => ?_) (fun _ => ?_)
    · refine g_aload_n hK 0 rfl rfl d1_readChange_71 ?_
      refine g_dup hK d1_readChange_72 rfl ?_
      refine g_getI hK zfin_1 (fa_1_2 kc_99) q_153 d1_readChange_73 (fun hf5 => ?_)
      refine g_iconst hK d1_readChange_76 zki1 ?_
      refine g_iadd hK d1_readChange_77 (fun v2 hv2 => ?_)
      refine g_putI hK zfin_1 (fa_1_2 kc_99) q_153 hv2 rfl (tyX1_ok 2 (by decide)) tyX1 tyX1_ok nmX1 d1_readChange_78 ?_
      refine g_ltM (fun m2 => ?_)
      refine g_aload_n hK 0 rfl rfl d1_readChange_81 ?_
      refine g_getM hK zfin_1 (fa_1_4 kc_99) q_155 (w := 2) (by decide) d1_readChange_82 (fun hm2 => ?_)
      refine g_getR hK zfin_2 (fa_2_5 hm2) q_64 (pt_2_changes hm2) d1_readChange_85 ?_
      refine g_iload_n hK 1 rfl rfl d1_readChange_88 ?_
      refine g_iload_n hK 2 rfl rfl d1_readChange_89 ?_
      refine g_iast hK hs0 (pt_2_changes_k hm2) d1_readChange_90 (fun _ => ?_)
      refine g_ltM (fun m3 => ?_)
      exact g_vret hK rfl rfl d1_readChange_91
    · refine g_aload_n hK 0 rfl rfl d1_readChange_61 ?_
      refine g_iconst hK d1_readChange_62 zki1 ?_
      refine g_aload_n hK 0 rfl rfl d1_readChange_63 ?_
      refine g_getI hK zfin_1 (fa_1_2 kc_99) q_153 d1_readChange_64 (fun hf6 => ?_)
      refine g_callVcm hK (rm := rm1_fail) (cb := 0) (sb := 0) (As := [.int (zi 1), .int (zi (zI m1 99 2))]) (b := 99) (n := 2) (c1_fail K.2.1 hK.2.2.2.2.2.2.2.2.1 Z 1 (zI m1 99 2) m1 zc1 hf6) rfl (ci := 1) rfl (by decide) kc_99 q_400 q_402 qs_1_fail q_4 q_403 rfl (by decide +kernel) (by decide) (Nat.le_of_ble_eq_true rfl) (Nat.le_of_ble_eq_true rfl) (Nat.le_of_ble_eq_true rfl) rfl d1_readChange_67 (fun m4 hm4 => ?_)
      exact g_vret hK rfl rfl d1_readChange_70
  · refine g_aload_n hK 0 rfl rfl d1_readChange_32 ?_
    refine g_iconst hK d1_readChange_33 zki1 ?_
    refine g_aload_n hK 0 rfl rfl d1_readChange_34 ?_
    refine g_getI hK zfin_1 (fa_1_2 kc_99) q_153 d1_readChange_35 (fun hf7 => ?_)
    refine g_callVcm hK (rm := rm1_fail) (cb := 0) (sb := 0) (As := [.int (zi 1), .int (zi (zI μ 99 2))]) (b := 99) (n := 2) (c1_fail K.2.1 hK.2.2.2.2.2.2.2.2.1 Z 1 (zI μ 99 2) μ zc1 hf7) rfl (ci := 1) rfl (by decide) kc_99 q_400 q_402 qs_1_fail q_4 q_403 rfl (by decide +kernel) (by decide) (Nat.le_of_ble_eq_true rfl) (Nat.le_of_ble_eq_true rfl) (Nat.le_of_ble_eq_true rfl) rfl d1_readChange_38 (fun m5 hm5 => ?_)
    exact g_vret hK rfl rfl d1_readChange_41
set_option maxRecDepth 20000 in
theorem c1_readChange (l : Launch) (hst : l.stackTraces = false) (Z : zZ) (a1 : Int) (μ : zM) (ha1 : zr a1) : ∀ x, f1_readChange a1 μ = some x → zCt l Z (zΩ Z) y1_readChange (zws (.code y1_readChange b1_readChange 3 (none))) rm1_readChange [.ref (Z.2.2.1 + 99), .int (zi a1)] μ (zeM x) := by
  intro x h
  refine zCt.of (enc := zeM) h (by decide) hst (Nat.le_of_ble_eq_true rfl) (fun K hK0 hex hl _ => ?_)
  subst hl
  have hcx : zOk K Z b1_readChange RX1 3 (none) 1 30 0 0 ∧ ∀ x ∈ K.2.2.2.2.2.2.2.2.2.exceptionTable.toList, False := ⟨hK0, hex⟩
  have hK := hcx.1
  show zG K Z (zΩ Z) (zF K Z (zΩ Z) zeM) 0 0 0 [(0, .ref (Z.2.2.1 + 99)), (1, .int (zi a1))] [] μ (f1_readChange a1 μ)
  unfold f1_readChange
  refine g_aload_n hK 0 rfl rfl d1_readChange_0 ?_
  refine g_getI hK zfin_1 (fa_1_2 kc_99) q_153 d1_readChange_1 (fun hf1 => ?_)
  refine g_aload_n hK 0 rfl rfl d1_readChange_4 ?_
  refine g_getI hK zfin_1 (fa_1_1 kc_99) q_152 d1_readChange_5 (fun hf2 => ?_)
  refine g_icmp_ge hK hf1 hf2 (tgt := 26) (by decide) d1_readChange_8 (fun _ => ?_) (fun _ => ?_)
  · refine g_iconst hK d1_readChange_26 zki0 ?_
    exact p1_readChange_27 hcx a1 ha1  0 μ zc0
  · refine g_aload_n hK 0 rfl rfl d1_readChange_11 ?_
    refine g_getM hK zfin_1 (fa_1_0 kc_99) q_151 (w := 100) (by decide) d1_readChange_12 (fun hm1 => ?_)
    refine g_aload_n hK 0 rfl rfl d1_readChange_15 ?_
    refine g_getI hK zfin_1 (fa_1_2 kc_99) q_153 d1_readChange_16 (fun hf3 => ?_)
    refine g_iald hK hm1 d1_readChange_19 (fun _ hl1 => ?_)
    refine g_callSco hK (mk := mkI) (rm := rm1_changeOf) (cb := 0) (sb := 0) (As := [.int (zi (zI μ (zR μ 99 0) (zx (zI μ 99 2))))]) (n := 1) (c1_changeOf K.2.1 hK.2.2.2.2.2.2.2.2.1 Z (zI μ (zR μ 99 0) (zx (zI μ 99 2))) μ hl1) q_465 q_466 q_4 q_467 rfl (by decide +kernel) (by decide) (Nat.le_of_ble_eq_true rfl) (Nat.le_of_ble_eq_true rfl) (Nat.le_of_ble_eq_true rfl) rfl d1_readChange_20 (fun r1 hr1 hpr1 => ?_)
    refine g_goto hK (tgt := 27) (by decide) d1_readChange_23 ?_
    exact p1_readChange_27 hcx a1 ha1  r1 μ hpr1
set_option maxRecDepth 20000 in
theorem c1_openDefault (l : Launch) (hst : l.stackTraces = false) (Z : zZ) (a1 : Int) (a2 : Int) (μ : zM) (ha1 : zr a1) (ha2 : zr a2) : ∀ x, f1_openDefault a1 a2 μ = some x → zCt l Z (zΩ Z) y1_openDefault (zws (.code y1_openDefault b1_openDefault 3 (none))) rm1_openDefault [.ref (Z.2.2.1 + 99), .int (zi a1), .int (zi a2)] μ (zeM x) := by
  intro x h
  refine zCt.of (enc := zeM) h (by decide) hst (Nat.le_of_ble_eq_true rfl) (fun K hK0 hex hl _ => ?_)
  subst hl
  have hcx : zOk K Z b1_openDefault RX1 3 (none) 1 30 0 0 ∧ ∀ x ∈ K.2.2.2.2.2.2.2.2.2.exceptionTable.toList, False := ⟨hK0, hex⟩
  have hK := hcx.1
  show zG K Z (zΩ Z) (zF K Z (zΩ Z) zeM) 0 0 0 [(0, .ref (Z.2.2.1 + 99)), (1, .int (zi a1)), (2, .int (zi a2))] [] μ (f1_openDefault a1 a2 μ)
  unfold f1_openDefault
  refine g_aload_n hK 0 rfl rfl d1_openDefault_0 ?_
  refine g_getM hK zfin_1 (fa_1_4 kc_99) q_155 (w := 2) (by decide) d1_openDefault_1 (fun hm1 => ?_)
  refine g_getR hK zfin_2 (fa_2_8 hm1) q_74 (pt_2_nestings hm1) d1_openDefault_4 ?_
  refine g_iload_n hK 1 rfl rfl d1_openDefault_7 ?_
  refine g_iald hK (pt_2_nestings_k hm1) d1_openDefault_8 (fun _ hl1 => ?_)
  refine g_iconst hK d1_openDefault_9 zki4 ?_
  refine g_icmp_lt hK hl1 zc4 (tgt := 20) (by decide) d1_openDefault_10 (fun _ => ?_) (fun _ => ?_)
  · refine g_aload_n hK 0 rfl rfl d1_openDefault_20 ?_
    refine g_dup hK d1_openDefault_21 rfl ?_
    refine g_getI hK zfin_1 (fa_1_2 kc_99) q_153 d1_openDefault_22 (fun hf1 => ?_)
    refine g_iconst hK d1_openDefault_25 zki1 ?_
    refine g_iadd hK d1_openDefault_26 (fun v1 hv1 => ?_)
    refine g_putI hK zfin_1 (fa_1_2 kc_99) q_153 hv1 rfl (tyX1_ok 2 (by decide)) tyX1 tyX1_ok nmX1 d1_openDefault_27 ?_
    refine g_ltM (fun m1 => ?_)
    refine g_aload_n hK 0 rfl rfl d1_openDefault_30 ?_
    refine g_getM hK zfin_1 (fa_1_4 kc_99) q_155 (w := 2) (by decide) d1_openDefault_31 (fun hm2 => ?_)
    refine g_getR hK zfin_2 (fa_2_6 hm2) q_68 (pt_2_hasDefault hm2) d1_openDefault_34 ?_
    refine g_iload_n hK 1 rfl rfl d1_openDefault_37 ?_
    refine g_iconst hK d1_openDefault_38 zki1 ?_
    refine g_zast hK (pt_2_hasDefault_k hm2) d1_openDefault_39 (fun _ => ?_)
    refine g_ltM (fun m2 => ?_)
    refine g_aload_n hK 0 rfl rfl d1_openDefault_40 ?_
    refine g_iload_n hK 1 rfl rfl d1_openDefault_41 ?_
    refine g_putI hK zfin_1 (fa_1_5 kc_99) q_156 ha1 rfl (tyX1_ok 5 (by decide)) tyX1 tyX1_ok nmX1 d1_openDefault_42 ?_
    refine g_ltM (fun m3 => ?_)
    exact g_vret hK rfl rfl d1_openDefault_45
  · refine g_aload_n hK 0 rfl rfl d1_openDefault_13 ?_
    refine g_iconst hK d1_openDefault_14 zki2 ?_
    refine g_iload_n hK 2 rfl rfl d1_openDefault_15 ?_
    refine g_callVcm hK (rm := rm1_fail) (cb := 0) (sb := 0) (As := [.int (zi 2), .int (zi a2)]) (b := 99) (n := 2) (c1_fail K.2.1 hK.2.2.2.2.2.2.2.2.1 Z 2 a2 μ zc2 ha2) rfl (ci := 1) rfl (by decide) kc_99 q_400 q_402 qs_1_fail q_4 q_403 rfl (by decide +kernel) (by decide) (Nat.le_of_ble_eq_true rfl) (Nat.le_of_ble_eq_true rfl) (Nat.le_of_ble_eq_true rfl) rfl d1_openDefault_16 (fun m4 hm4 => ?_)
    exact g_vret hK rfl rfl d1_openDefault_19
set_option maxRecDepth 20000 in
theorem c1_readBehindField (l : Launch) (hst : l.stackTraces = false) (Z : zZ) (a1 : Int) (a2 : Int) (μ : zM) (ha1 : zr a1) (ha2 : zr a2) : ∀ x, f1_readBehindField a1 a2 μ = some x → zCt l Z (zΩ Z) y1_readBehindField (zws (.code y1_readBehindField b1_readBehindField 3 (none))) rm1_readBehindField [.ref (Z.2.2.1 + 99), .int (zi a1), .int (zi a2)] μ (zeM x) := by
  intro x h
  refine zCt.of (enc := zeM) h (by decide) hst (Nat.le_of_ble_eq_true rfl) (fun K hK0 hex hl _ => ?_)
  subst hl
  have hcx : zOk K Z b1_readBehindField RX1 3 (none) 2 52 0 0 ∧ ∀ x ∈ K.2.2.2.2.2.2.2.2.2.exceptionTable.toList, False := ⟨hK0, hex⟩
  have hK := hcx.1
  show zG K Z (zΩ Z) (zF K Z (zΩ Z) zeM) 0 0 0 [(0, .ref (Z.2.2.1 + 99)), (1, .int (zi a1)), (2, .int (zi a2))] [] μ (f1_readBehindField a1 a2 μ)
  unfold f1_readBehindField
  refine g_aload_n hK 0 rfl rfl d1_readBehindField_0 ?_
  refine g_bipush hK d1_readBehindField_1 zkb125 ?_
  refine g_callVco hK (mk := mkZ) (rm := rm1_isAt) (cb := 0) (sb := 0) (As := [.int (zi 125)]) (b := 99) (n := 1) (c1_isAt K.2.1 hK.2.2.2.2.2.2.2.2.1 Z 125 μ zc125) rfl (ci := 1) rfl (by decide) kc_99 q_421 q_423 qs_1_isAt q_4 q_424 rfl (by decide +kernel) (by decide) (Nat.le_of_ble_eq_true rfl) (Nat.le_of_ble_eq_true rfl) (Nat.le_of_ble_eq_true rfl) rfl d1_readBehindField_3 (fun r1 hr1 hpr1 => ?_)
  refine g_if_eq hK (zb_r r1) (tgt := 22) (by decide) d1_readBehindField_6 (fun _ => ?_) (fun _ => ?_)
  · refine g_aload_n hK 0 rfl rfl d1_readBehindField_22 ?_
    refine g_bipush hK d1_readBehindField_23 zkb47 ?_
    refine g_callVco hK (mk := mkZ) (rm := rm1_isAt) (cb := 0) (sb := 0) (As := [.int (zi 47)]) (b := 99) (n := 1) (c1_isAt K.2.1 hK.2.2.2.2.2.2.2.2.1 Z 47 μ zc47) rfl (ci := 1) rfl (by decide) kc_99 q_421 q_423 qs_1_isAt q_4 q_424 rfl (by decide +kernel) (by decide) (Nat.le_of_ble_eq_true rfl) (Nat.le_of_ble_eq_true rfl) (Nat.le_of_ble_eq_true rfl) rfl d1_readBehindField_25 (fun r2 hr2 hpr2 => ?_)
    refine g_if_eq hK (zb_r r2) (tgt := 49) (by decide) d1_readBehindField_28 (fun _ => ?_) (fun _ => ?_)
    · refine g_aload_n hK 0 rfl rfl d1_readBehindField_49 ?_
      refine g_bipush hK d1_readBehindField_50 zkb58 ?_
      refine g_callVco hK (mk := mkZ) (rm := rm1_isAt) (cb := 0) (sb := 0) (As := [.int (zi 58)]) (b := 99) (n := 1) (c1_isAt K.2.1 hK.2.2.2.2.2.2.2.2.1 Z 58 μ zc58) rfl (ci := 1) rfl (by decide) kc_99 q_421 q_423 qs_1_isAt q_4 q_424 rfl (by decide +kernel) (by decide) (Nat.le_of_ble_eq_true rfl) (Nat.le_of_ble_eq_true rfl) (Nat.le_of_ble_eq_true rfl) rfl d1_readBehindField_52 (fun r3 hr3 hpr3 => ?_)
      refine g_if_eq hK (zb_r r3) (tgt := 67) (by decide) d1_readBehindField_55 (fun _ => ?_) (fun _ => ?_)
      · refine g_aload_n hK 0 rfl rfl d1_readBehindField_67 ?_
        refine g_iconst hK d1_readBehindField_68 zki1 ?_
        refine g_aload_n hK 0 rfl rfl d1_readBehindField_69 ?_
        refine g_getI hK zfin_1 (fa_1_2 kc_99) q_153 d1_readBehindField_70 (fun hf1 => ?_)
        refine g_callVcm hK (rm := rm1_fail) (cb := 0) (sb := 0) (As := [.int (zi 1), .int (zi (zI μ 99 2))]) (b := 99) (n := 2) (c1_fail K.2.1 hK.2.2.2.2.2.2.2.2.1 Z 1 (zI μ 99 2) μ zc1 hf1) rfl (ci := 1) rfl (by decide) kc_99 q_400 q_402 qs_1_fail q_4 q_403 rfl (by decide +kernel) (by decide) (Nat.le_of_ble_eq_true rfl) (Nat.le_of_ble_eq_true rfl) (Nat.le_of_ble_eq_true rfl) rfl d1_readBehindField_73 (fun m1 hm1 => ?_)
        exact g_vret hK rfl rfl d1_readBehindField_76
      · refine g_aload_n hK 0 rfl rfl d1_readBehindField_58 ?_
        refine g_iload_n hK 1 rfl rfl d1_readBehindField_59 ?_
        refine g_iload_n hK 2 rfl rfl d1_readBehindField_60 ?_
        refine g_callVcm hK (rm := rm1_openDefault) (cb := 0) (sb := 0) (As := [.int (zi a1), .int (zi a2)]) (b := 99) (n := 2) (c1_openDefault K.2.1 hK.2.2.2.2.2.2.2.2.1 Z a1 a2 μ ha1 ha2) rfl (ci := 1) rfl (by decide) kc_99 q_468 q_470 qs_1_openDefault q_4 q_471 rfl (by decide +kernel) (by decide) (Nat.le_of_ble_eq_true rfl) (Nat.le_of_ble_eq_true rfl) (Nat.le_of_ble_eq_true rfl) rfl d1_readBehindField_61 (fun m2 hm2 => ?_)
        refine g_goto hK (tgt := 76) (by decide) d1_readBehindField_64 ?_
        exact g_vret hK rfl rfl d1_readBehindField_76
    · refine g_aload_n hK 0 rfl rfl d1_readBehindField_31 ?_
      refine g_dup hK d1_readBehindField_32 rfl ?_
      refine g_getI hK zfin_1 (fa_1_2 kc_99) q_153 d1_readBehindField_33 (fun hf2 => ?_)
      refine g_iconst hK d1_readBehindField_36 zki1 ?_
      refine g_iadd hK d1_readBehindField_37 (fun v1 hv1 => ?_)
      refine g_putI hK zfin_1 (fa_1_2 kc_99) q_153 hv1 rfl (tyX1_ok 2 (by decide)) tyX1 tyX1_ok nmX1 d1_readBehindField_38 ?_
      refine g_ltM (fun m3 => ?_)
      refine g_aload_n hK 0 rfl rfl d1_readBehindField_41 ?_
      refine g_iload_n hK 1 rfl rfl d1_readBehindField_42 ?_
      refine g_callVcm hK (rm := rm1_readChange) (cb := 0) (sb := 0) (As := [.int (zi a1)]) (b := 99) (n := 1) (c1_readChange K.2.1 hK.2.2.2.2.2.2.2.2.1 Z a1 m3 ha1) rfl (ci := 1) rfl (by decide) kc_99 q_461 q_463 qs_1_readChange q_4 q_464 rfl (by decide +kernel) (by decide) (Nat.le_of_ble_eq_true rfl) (Nat.le_of_ble_eq_true rfl) (Nat.le_of_ble_eq_true rfl) rfl d1_readBehindField_43 (fun m4 hm4 => ?_)
      refine g_goto hK (tgt := 76) (by decide) d1_readBehindField_46 ?_
      exact g_vret hK rfl rfl d1_readBehindField_76
  · refine g_aload_n hK 0 rfl rfl d1_readBehindField_9 ?_
    refine g_dup hK d1_readBehindField_10 rfl ?_
    refine g_getI hK zfin_1 (fa_1_2 kc_99) q_153 d1_readBehindField_11 (fun hf3 => ?_)
    refine g_iconst hK d1_readBehindField_14 zki1 ?_
    refine g_iadd hK d1_readBehindField_15 (fun v2 hv2 => ?_)
    refine g_putI hK zfin_1 (fa_1_2 kc_99) q_153 hv2 rfl (tyX1_ok 2 (by decide)) tyX1 tyX1_ok nmX1 d1_readBehindField_16 ?_
    refine g_ltM (fun m5 => ?_)
    refine g_goto hK (tgt := 76) (by decide) d1_readBehindField_19 ?_
    exact g_vret hK rfl rfl d1_readBehindField_76
set_option maxRecDepth 20000 in
theorem p1_readDollar_33 {K : zK} {Z : zZ} (hcx : zOk K Z b1_readDollar RX1 4 (none) 3 74 0 0 ∧ ∀ x ∈ K.2.2.2.2.2.2.2.2.2.exceptionTable.toList, False) (μ : zM) : zG K Z (zΩ Z) (zF K Z (zΩ Z) zeM) 0 0 33 [(0, .ref (Z.2.2.1 + 99))] [] μ (f1_readDollar_33 μ) := by
  obtain ⟨hK, hex⟩ := id hcx
  unfold f1_readDollar_33
  refine g_aload_n hK 0 rfl rfl d1_readDollar_33 ?_
  refine g_getM hK zfin_1 (fa_1_4 kc_99) q_155 (w := 2) (by decide) d1_readDollar_34 (fun hm1 => ?_)
  refine g_aload_n hK 0 rfl rfl d1_readDollar_37 ?_
  refine g_getM hK zfin_1 (fa_1_0 kc_99) q_151 (w := 100) (by decide) d1_readDollar_38 (fun hm2 => ?_)
  refine g_aload_n hK 0 rfl rfl d1_readDollar_41 ?_
  refine g_getI hK zfin_1 (fa_1_2 kc_99) q_153 d1_readDollar_42 (fun hf4 => ?_)
  refine g_iald hK hm2 d1_readDollar_45 (fun _ hl1 => ?_)
  refine g_aload_n hK 0 rfl rfl d1_readDollar_46 ?_
  refine g_getI hK zfin_1 (fa_1_5 kc_99) q_156 d1_readDollar_47 (fun hf5 => ?_)
  refine g_callVcm hK (rm := rm2_addLiteral) (cb := 0) (sb := 0) (As := [.int (zi (zI μ (zR μ 99 0) (zx (zI μ 99 2)))), .int (zi (zI μ 99 5))]) (b := (zR μ 99 4)) (n := 2) (c2_addLiteral K.2.1 hK.2.2.2.2.2.2.2.2.1 Z (zR μ 99 4) (zI μ (zR μ 99 0) (zx (zI μ 99 2))) (zI μ 99 5) μ hm1 hl1 hf5) rfl (ci := 2) rfl (by decide) hm1 q_437 q_438 q_439 q_3 q_440 rfl (by decide +kernel) (by decide) (Nat.le_of_ble_eq_true rfl) (Nat.le_of_ble_eq_true rfl) (Nat.le_of_ble_eq_true rfl) rfl d1_readDollar_50 (fun m3 hm3 => ?_)
  refine g_aload_n hK 0 rfl rfl d1_readDollar_53 ?_
  refine g_dup hK d1_readDollar_54 rfl ?_
  refine g_getI hK zfin_1 (fa_1_2 kc_99) q_153 d1_readDollar_55 (fun hf6 => ?_)
  refine g_iconst hK d1_readDollar_58 zki1 ?_
  refine g_iadd hK d1_readDollar_59 (fun v4 hv4 => ?_)
  refine g_putI hK zfin_1 (fa_1_2 kc_99) q_153 hv4 rfl (tyX1_ok 2 (by decide)) tyX1 tyX1_ok nmX1 d1_readDollar_60 ?_
  refine g_ltM (fun m4 => ?_)
  exact g_vret hK rfl rfl d1_readDollar_63
set_option maxRecDepth 20000 in
theorem p1_readDollar_124 {K : zK} {Z : zZ} (hcx : zOk K Z b1_readDollar RX1 4 (none) 3 74 0 0 ∧ ∀ x ∈ K.2.2.2.2.2.2.2.2.2.exceptionTable.toList, False) (μ : zM) : zG K Z (zΩ Z) (zF K Z (zΩ Z) zeM) 0 0 124 [(0, .ref (Z.2.2.1 + 99))] [] μ (f1_readDollar_124 μ) := by
  obtain ⟨hK, hex⟩ := id hcx
  unfold f1_readDollar_124
  refine g_aload_n hK 0 rfl rfl d1_readDollar_124 ?_
  refine g_iconst hK d1_readDollar_125 zki1 ?_
  refine g_aload_n hK 0 rfl rfl d1_readDollar_126 ?_
  refine g_getI hK zfin_1 (fa_1_2 kc_99) q_153 d1_readDollar_127 (fun hf11 => ?_)
  refine g_callVcm hK (rm := rm1_fail) (cb := 0) (sb := 0) (As := [.int (zi 1), .int (zi (zI μ 99 2))]) (b := 99) (n := 2) (c1_fail K.2.1 hK.2.2.2.2.2.2.2.2.1 Z 1 (zI μ 99 2) μ zc1 hf11) rfl (ci := 1) rfl (by decide) kc_99 q_400 q_402 qs_1_fail q_4 q_403 rfl (by decide +kernel) (by decide) (Nat.le_of_ble_eq_true rfl) (Nat.le_of_ble_eq_true rfl) (Nat.le_of_ble_eq_true rfl) rfl d1_readDollar_130 (fun m7 hm7 => ?_)
  exact g_vret hK rfl rfl d1_readDollar_133
set_option maxRecDepth 20000 in
theorem p1_readDollar_85 {K : zK} {Z : zZ} (hcx : zOk K Z b1_readDollar RX1 4 (none) 3 74 0 0 ∧ ∀ x ∈ K.2.2.2.2.2.2.2.2.2.exceptionTable.toList, False) (x1 : Int) (x2 : Int) (μ : zM) (hx1 : zr x1) (hx2 : zr x2) : zG K Z (zΩ Z) (zF K Z (zΩ Z) zeM) 0 0 85 [(0, .ref (Z.2.2.1 + 99)), (1, .int (zi x1)), (2, .int (zi x2))] [] μ (f1_readDollar_85 x1 x2 μ) := by
  obtain ⟨hK, hex⟩ := id hcx
  unfold f1_readDollar_85
  refine g_aload_n hK 0 rfl rfl d1_readDollar_85 ?_
  refine g_getI hK zfin_1 (fa_1_2 kc_99) q_153 d1_readDollar_86 (fun hf7 => ?_)
  refine g_aload_n hK 0 rfl rfl d1_readDollar_89 ?_
  refine g_getI hK zfin_1 (fa_1_1 kc_99) q_152 d1_readDollar_90 (fun hf8 => ?_)
  refine g_icmp_ge hK hf7 hf8 (tgt := 124) (by decide) d1_readDollar_93 (fun _ => ?_) (fun _ => ?_)
  · refine g_lv (lv2 := [(0, .ref (Z.2.2.1 + 99))]) [0] rfl ?_
    exact p1_readDollar_124 hcx   μ 
  · refine g_aload_n hK 0 rfl rfl d1_readDollar_96 ?_
    refine g_getM hK zfin_1 (fa_1_0 kc_99) q_151 (w := 100) (by decide) d1_readDollar_97 (fun hm3 => ?_)
    refine g_aload_n hK 0 rfl rfl d1_readDollar_100 ?_
    refine g_getI hK zfin_1 (fa_1_2 kc_99) q_153 d1_readDollar_101 (fun hf9 => ?_)
    refine g_iald hK hm3 d1_readDollar_104 (fun _ hl2 => ?_)
    refine g_bipush hK d1_readDollar_105 zkb48 ?_
    refine g_icmp_lt hK hl2 zc48 (tgt := 124) (by decide) d1_readDollar_107 (fun _ => ?_) (fun _ => ?_)
    · refine g_lv (lv2 := [(0, .ref (Z.2.2.1 + 99))]) [0] rfl ?_
      exact p1_readDollar_124 hcx   μ 
    · refine g_aload_n hK 0 rfl rfl d1_readDollar_110 ?_
      refine g_getM hK zfin_1 (fa_1_0 kc_99) q_151 (w := 100) (by decide) d1_readDollar_111 (fun hm4 => ?_)
      refine g_aload_n hK 0 rfl rfl d1_readDollar_114 ?_
      refine g_getI hK zfin_1 (fa_1_2 kc_99) q_153 d1_readDollar_115 (fun hf10 => ?_)
      refine g_iald hK hm4 d1_readDollar_118 (fun _ hl3 => ?_)
      refine g_bipush hK d1_readDollar_119 zkb57 ?_
      refine g_icmp_le hK hl3 zc57 (tgt := 134) (by decide) d1_readDollar_121 (fun _ => ?_) (fun _ => ?_)
      · refine g_aload_n hK 0 rfl rfl d1_readDollar_134 ?_
        refine g_iload_n hK 1 rfl rfl d1_readDollar_135 ?_
        refine g_callVcl hK (mk := mkI) (rm := rm1_readField) (cb := 0) (sb := 0) (As := [.int (zi x1)]) (b := 99) (n := 1) (c1_readField K.2.1 hK.2.2.2.2.2.2.2.2.1 Z x1 μ hx1) rfl (ci := 1) rfl (by decide) kc_99 q_441 q_443 qs_1_readField q_4 q_444 rfl (by decide +kernel) (by decide) (Nat.le_of_ble_eq_true rfl) (Nat.le_of_ble_eq_true rfl) (Nat.le_of_ble_eq_true rfl) rfl d1_readDollar_136 (fun r4 m5 hr4 hpr4 => ?_)
        refine g_istore_n hK (lv2 := [(0, .ref (Z.2.2.1 + 99)), (1, .int (zi x1)), (2, .int (zi x2)), (3, .int (zi r4))]) [1, 2, 3, 0] rfl rfl (by decide) d1_readDollar_139 ?_
        refine g_iload_n hK 2 rfl rfl d1_readDollar_140 ?_
        refine g_if_eq hK hx2 (tgt := 155) (by decide) d1_readDollar_141 (fun _ => ?_) (fun _ => ?_)
        · exact g_vret hK rfl rfl d1_readDollar_155
        · refine g_iload_n hK 3 rfl rfl d1_readDollar_144 ?_
          refine g_iconst hK d1_readDollar_145 zkim1 ?_
          refine g_icmp_eq hK hpr4 zcm1 (tgt := 155) (by decide) d1_readDollar_146 (fun _ => ?_) (fun _ => ?_)
          · exact g_vret hK rfl rfl d1_readDollar_155
          · refine g_aload_n hK 0 rfl rfl d1_readDollar_149 ?_
            refine g_iload_n hK 3 rfl rfl d1_readDollar_150 ?_
            refine g_iload_n hK 1 rfl rfl d1_readDollar_151 ?_
            refine g_callVcm hK (rm := rm1_readBehindField) (cb := 0) (sb := 0) (As := [.int (zi r4), .int (zi x1)]) (b := 99) (n := 2) (c1_readBehindField K.2.1 hK.2.2.2.2.2.2.2.2.1 Z r4 x1 m5 hpr4 hx1) rfl (ci := 1) rfl (by decide) kc_99 q_457 q_459 qs_1_readBehindField q_4 q_460 rfl (by decide +kernel) (by decide) (Nat.le_of_ble_eq_true rfl) (Nat.le_of_ble_eq_true rfl) (Nat.le_of_ble_eq_true rfl) rfl d1_readDollar_152 (fun m6 hm6 => ?_)
            exact g_vret hK rfl rfl d1_readDollar_155
      · refine g_lv (lv2 := [(0, .ref (Z.2.2.1 + 99))]) [0] rfl ?_
        exact p1_readDollar_124 hcx   μ 
