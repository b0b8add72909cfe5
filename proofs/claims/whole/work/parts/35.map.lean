set_option maxRecDepth 20000 in
theorem c7_thrown (l : Launch) (hst : l.stackTraces = false) (Z : zZ) (μ : zM) : ∀ x, f7_thrown μ = some x → zCt l Z (zΩ Z) y7_thrown (zws (.code y7_thrown b7_thrown 1 (some .int))) rm7_thrown [.ref (Z.2.2.1 + 292)] μ (zeP mkI μ x) := by
  intro x h
  refine zCt.of (enc := (zeP mkI μ)) h (by decide) hst (Nat.le_of_ble_eq_true rfl) (fun K hK0 hex hl _ => ?_)
  subst hl
  have hcx : zOk K Z b7_thrown RX7 1 (some .int) 0 8 0 0 ∧ ∀ x ∈ K.2.2.2.2.2.2.2.2.2.exceptionTable.toList, False := ⟨hK0, hex⟩
  have hK := hcx.1
  show zG K Z (zΩ Z) (zF K Z (zΩ Z) (zeP mkI μ)) 0 0 0 [(0, .ref (Z.2.2.1 + 292))] [] μ (f7_thrown μ)
  unfold f7_thrown
  refine g_aload_n hK 0 rfl rfl d7_thrown_0 ?_
  refine g_getI hK zfin_7 (fa_7_0 kc_292) q_1197 d7_thrown_1 (fun hf1 => ?_)
  exact g_iret hK hf1 rfl rfl d7_thrown_4
set_option maxRecDepth 20000 in
theorem c7_within (l : Launch) (hst : l.stackTraces = false) (Z : zZ) (a1 : Int) (a2 : Int) (a3 : Int) (μ : zM) (ha1 : zr a1) (ha2 : zr a2) (ha3 : zr a3) : ∀ x, f7_within a1 a2 a3 = some x → zCt l Z (zΩ Z) y7_within (zws (.code y7_within b7_within 3 (some .boolean))) rm7_within [.int (zi a1), .int (zi a2), .int (zi a3)] μ (zeP mkZ μ x) := by
  intro x h
  refine zCt.of (enc := (zeP mkZ μ)) h (by decide) hst (Nat.le_of_ble_eq_true rfl) (fun K hK0 hex hl _ => ?_)
  subst hl
  have hcx : zOk K Z b7_within RX7 3 (some .boolean) 0 8 0 0 ∧ ∀ x ∈ K.2.2.2.2.2.2.2.2.2.exceptionTable.toList, False := ⟨hK0, hex⟩
  have hK := hcx.1
  show zG K Z (zΩ Z) (zF K Z (zΩ Z) (zeP mkZ μ)) 0 0 0 [(0, .int (zi a1)), (1, .int (zi a2)), (2, .int (zi a3))] [] μ (f7_within a1 a2 a3)
  unfold f7_within
  refine g_iload_n hK 0 rfl rfl d7_within_0 ?_
  refine g_iload_n hK 1 rfl rfl d7_within_1 ?_
  refine g_icmp_lt hK ha1 ha2 (tgt := 14) (by decide) d7_within_2 (fun _ => ?_) (fun _ => ?_)
  · refine g_iconst hK d7_within_14 zki0 ?_
    exact g_zret hK (by decide) rfl rfl d7_within_15
  · refine g_iload_n hK 0 rfl rfl d7_within_5 ?_
    refine g_iload_n hK 2 rfl rfl d7_within_6 ?_
    refine g_icmp_gt hK ha1 ha3 (tgt := 14) (by decide) d7_within_7 (fun _ => ?_) (fun _ => ?_)
    · refine g_iconst hK d7_within_14 zki0 ?_
      exact g_zret hK (by decide) rfl rfl d7_within_15
    · refine g_iconst hK d7_within_10 zki1 ?_
      refine g_goto hK (tgt := 15) (by decide) d7_within_11 ?_
      exact g_zret hK (by decide) rfl rfl d7_within_15
set_option maxRecDepth 20000 in
theorem c7_has (l : Launch) (hst : l.stackTraces = false) (Z : zZ) (a1 : Int) (a2 : Int) (μ : zM) (ha1 : zr a1) (ha2 : zr a2) : ∀ x, f7_has a1 a2 = some x → zCt l Z (zΩ Z) y7_has (zws (.code y7_has b7_has 2 (some .boolean))) rm7_has [.int (zi a1), .int (zi a2)] μ (zeP mkZ μ x) := by
  intro x h
  refine zCt.of (enc := (zeP mkZ μ)) h (by decide) hst (Nat.le_of_ble_eq_true rfl) (fun K hK0 hex hl _ => ?_)
  subst hl
  have hcx : zOk K Z b7_has RX7 2 (some .boolean) 0 8 0 0 ∧ ∀ x ∈ K.2.2.2.2.2.2.2.2.2.exceptionTable.toList, False := ⟨hK0, hex⟩
  have hK := hcx.1
  show zG K Z (zΩ Z) (zF K Z (zΩ Z) (zeP mkZ μ)) 0 0 0 [(0, .int (zi a1)), (1, .int (zi a2))] [] μ (f7_has a1 a2)
  unfold f7_has
  refine g_iload_n hK 0 rfl rfl d7_has_0 ?_
  refine g_iload_n hK 1 rfl rfl d7_has_1 ?_
  refine g_ishr hK d7_has_2 (fun v1 hv1 => ?_)
  refine g_iconst hK d7_has_3 zki1 ?_
  refine g_iand hK d7_has_4 (fun v2 hv2 => ?_)
  refine g_iconst hK d7_has_5 zki1 ?_
  refine g_icmp_ne hK hv2 zc1 (tgt := 13) (by decide) d7_has_6 (fun _ => ?_) (fun _ => ?_)
  · refine g_iconst hK d7_has_13 zki0 ?_
    exact g_zret hK (by decide) rfl rfl d7_has_14
  · refine g_iconst hK d7_has_9 zki1 ?_
    refine g_goto hK (tgt := 14) (by decide) d7_has_10 ?_
    exact g_zret hK (by decide) rfl rfl d7_has_14
set_option maxRecDepth 20000 in
theorem p7_bits_4 {K : zK} {Z : zZ} (hcx : zOk K Z b7_bits RX7 3 (some .int) 0 8 0 0 ∧ ∀ x ∈ K.2.2.2.2.2.2.2.2.2.exceptionTable.toList, False) (a1 : Int) (μ : zM) (ha1 : zr a1) (k4 : Int → Int → Option Int) (hk4 : ∀ (x1 : Int) (x2 : Int) (hx1 : zr x1) (hx2 : zr x2), zG K Z (zΩ Z) (zF K Z (zΩ Z) (zeP mkI μ)) 0 0 4 [(0, .int (zi a1)), (1, .int (zi x1)), (2, .int (zi x2))] [] μ (k4 x1 x2)) (x1 : Int) (x2 : Int) (hx1 : zr x1) (hx2 : zr x2) : zG K Z (zΩ Z) (zF K Z (zΩ Z) (zeP mkI μ)) 0 0 4 [(0, .int (zi a1)), (1, .int (zi x1)), (2, .int (zi x2))] [] μ (f7_bits_4 a1 k4 x1 x2) := by
  obtain ⟨hK, hex⟩ := id hcx
  unfold f7_bits_4
  refine g_iload_n hK 2 rfl rfl d7_bits_4 ?_
  refine g_bipush hK d7_bits_5 zkb12 ?_
  refine g_icmp_ge hK hx2 zc12 (tgt := 24) (by decide) d7_bits_7 (fun _ => ?_) (fun _ => ?_)
  · refine g_iload_n hK 1 rfl rfl d7_bits_24 ?_
    exact g_iret hK hx1 rfl rfl d7_bits_25
  · refine g_iload_n hK 1 rfl rfl d7_bits_10 ?_
    refine g_iload_n hK 0 rfl rfl d7_bits_11 ?_
    refine g_iload_n hK 2 rfl rfl d7_bits_12 ?_
    refine g_ishr hK d7_bits_13 (fun v1 hv1 => ?_)
    refine g_iconst hK d7_bits_14 zki1 ?_
    refine g_iand hK d7_bits_15 (fun v2 hv2 => ?_)
    refine g_iadd hK d7_bits_16 (fun v3 hv3 => ?_)
    refine g_istore_n hK (lv2 := [(0, .int (zi a1)), (1, .int (zi v3)), (2, .int (zi x2))]) [1, 0, 2] rfl rfl (by decide) d7_bits_17 ?_
    refine g_iinc hK (lv2 := fun v4 => [(0, .int (zi a1)), (1, .int (zi v3)), (2, .int (zi v4))]) 2 rfl [1, 2, 0] (fun _ => rfl) (by decide) d7_bits_18 (fun v4 hv4 => ?_)
    refine g_goto hK (tgt := 4) (by decide) d7_bits_21 ?_
    exact hk4 v3 v4  hv3 hv4
set_option maxRecDepth 20000 in
theorem l7_bits_4 {K : zK} {Z : zZ} (hcx : zOk K Z b7_bits RX7 3 (some .int) 0 8 0 0 ∧ ∀ x ∈ K.2.2.2.2.2.2.2.2.2.exceptionTable.toList, False) (a1 : Int) (μ : zM) (ha1 : zr a1) : ∀ (i9 : Nat) (x1 : Int) (x2 : Int) (hx1 : zr x1) (hx2 : zr x2), zG K Z (zΩ Z) (zF K Z (zΩ Z) (zeP mkI μ)) 0 0 4 [(0, .int (zi a1)), (1, .int (zi x1)), (2, .int (zi x2))] [] μ (zfx (f7_bits_4 a1) (fun _ _ => none) i9 x1 x2) := by
  intro i9
  induction i9 with
  | zero => intro x1 x2 hx1 hx2; exact g_none
  | succ i9 ih => intro x1 x2 hx1 hx2; exact p7_bits_4 hcx a1 μ ha1  (zfx (f7_bits_4 a1) (fun _ _ => none) i9) ih x1 x2 hx1 hx2
set_option maxRecDepth 20000 in
theorem c7_bits (l : Launch) (hst : l.stackTraces = false) (Z : zZ) (a1 : Int) (μ : zM) (ha1 : zr a1) : ∀ x, f7_bits a1 = some x → zCt l Z (zΩ Z) y7_bits (zws (.code y7_bits b7_bits 3 (some .int))) rm7_bits [.int (zi a1)] μ (zeP mkI μ x) := by
  intro x h
  refine zCt.of (enc := (zeP mkI μ)) h (by decide) hst (Nat.le_of_ble_eq_true rfl) (fun K hK0 hex hl _ => ?_)
  subst hl
  have hcx : zOk K Z b7_bits RX7 3 (some .int) 0 8 0 0 ∧ ∀ x ∈ K.2.2.2.2.2.2.2.2.2.exceptionTable.toList, False := ⟨hK0, hex⟩
  have hK := hcx.1
  show zG K Z (zΩ Z) (zF K Z (zΩ Z) (zeP mkI μ)) 0 0 0 [(0, .int (zi a1))] [] μ (f7_bits a1)
  unfold f7_bits
  refine g_iconst hK d7_bits_0 zki0 ?_
  refine g_istore_n hK (lv2 := [(0, .int (zi a1)), (1, .int (zi 0))]) [1, 0] rfl rfl (by decide) d7_bits_1 ?_
  refine g_iconst hK d7_bits_2 zki0 ?_
  refine g_istore_n hK (lv2 := [(0, .int (zi a1)), (1, .int (zi 0)), (2, .int (zi 0))]) [1, 2, 0] rfl rfl (by decide) d7_bits_3 ?_
  exact l7_bits_4 hcx a1 μ ha1  zFu 0 0  zc0 zc0
set_option maxRecDepth 20000 in
theorem p7_throwsIf_16 {K : zK} {Z : zZ} (hcx : zOk K Z b7_throwsIf RX7 3 (some .boolean) 0 8 0 0 ∧ ∀ x ∈ K.2.2.2.2.2.2.2.2.2.exceptionTable.toList, False) (a1 : Int) (a2 : Int) (ha1 : zr a1) (ha2 : zr a2) (μ : zM) : zG K Z (zΩ Z) (zF K Z (zΩ Z) (ze2 mkZ)) 0 0 16 [(0, .ref (Z.2.2.1 + 292))] [] μ (f7_throwsIf_16 a1 a2 μ) := by
  obtain ⟨hK, hex⟩ := id hcx
  unfold f7_throwsIf_16
  refine g_aload_n hK 0 rfl rfl d7_throwsIf_16 ?_
  refine g_getI hK zfin_7 (fa_7_0 kc_292) q_1197 d7_throwsIf_17 (fun hf2 => ?_)
  refine g_if_le hK hf2 (tgt := 27) (by decide) d7_throwsIf_20 (fun _ => ?_) (fun _ => ?_)
  · refine g_iconst hK d7_throwsIf_27 zki0 ?_
    exact g_zret hK (by decide) rfl rfl d7_throwsIf_28
  · refine g_iconst hK d7_throwsIf_23 zki1 ?_
    refine g_goto hK (tgt := 28) (by decide) d7_throwsIf_24 ?_
    exact g_zret hK (by decide) rfl rfl d7_throwsIf_28
set_option maxRecDepth 20000 in
theorem c7_throwsIf (l : Launch) (hst : l.stackTraces = false) (Z : zZ) (a1 : Int) (a2 : Int) (μ : zM) (ha1 : zr a1) (ha2 : zr a2) : ∀ x, f7_throwsIf a1 a2 μ = some x → zCt l Z (zΩ Z) y7_throwsIf (zws (.code y7_throwsIf b7_throwsIf 3 (some .boolean))) rm7_throwsIf [.ref (Z.2.2.1 + 292), .int (zi a1), .int (zi a2)] μ (ze2 mkZ x) := by
  intro x h
  refine zCt.of (enc := (ze2 mkZ)) h (by decide) hst (Nat.le_of_ble_eq_true rfl) (fun K hK0 hex hl _ => ?_)
  subst hl
  have hcx : zOk K Z b7_throwsIf RX7 3 (some .boolean) 0 8 0 0 ∧ ∀ x ∈ K.2.2.2.2.2.2.2.2.2.exceptionTable.toList, False := ⟨hK0, hex⟩
  have hK := hcx.1
  show zG K Z (zΩ Z) (zF K Z (zΩ Z) (ze2 mkZ)) 0 0 0 [(0, .ref (Z.2.2.1 + 292)), (1, .int (zi a1)), (2, .int (zi a2))] [] μ (f7_throwsIf a1 a2 μ)
  unfold f7_throwsIf
  refine g_aload_n hK 0 rfl rfl d7_throwsIf_0 ?_
  refine g_getI hK zfin_7 (fa_7_0 kc_292) q_1197 d7_throwsIf_1 (fun hf1 => ?_)
  refine g_if_ne hK hf1 (tgt := 16) (by decide) d7_throwsIf_4 (fun _ => ?_) (fun _ => ?_)
  · refine g_lv (lv2 := [(0, .ref (Z.2.2.1 + 292))]) [0] rfl ?_
    exact p7_throwsIf_16 hcx a1 a2 ha1 ha2   μ 
  · refine g_iload_n hK 1 rfl rfl d7_throwsIf_7 ?_
    refine g_if_eq hK ha1 (tgt := 16) (by decide) d7_throwsIf_8 (fun _ => ?_) (fun _ => ?_)
    · refine g_lv (lv2 := [(0, .ref (Z.2.2.1 + 292))]) [0] rfl ?_
      exact p7_throwsIf_16 hcx a1 a2 ha1 ha2   μ 
    · refine g_aload_n hK 0 rfl rfl d7_throwsIf_11 ?_
      refine g_iload_n hK 2 rfl rfl d7_throwsIf_12 ?_
      refine g_putI hK zfin_7 (fa_7_0 kc_292) q_1197 ha2 rfl (tyX7_ok 0 (by decide)) tyX7 tyX7_ok nmX7 d7_throwsIf_13 ?_
      refine g_ltM (fun m1 => ?_)
      refine g_lv (lv2 := [(0, .ref (Z.2.2.1 + 292))]) [0] rfl ?_
      exact p7_throwsIf_16 hcx a1 a2 ha1 ha2   m1 
set_option maxRecDepth 20000 in
theorem p7_copies_3 {K : zK} {Z : zZ} (hcx : zOk K Z b7_copies RX7 5 (none) 0 8 0 0 ∧ ∀ x ∈ K.2.2.2.2.2.2.2.2.2.exceptionTable.toList, False) (a1 : Nat) (a2 : Int) (a3 : Nat) (a4 : Int) (ha1 : zkd a1 = 100) (ha2 : zr a2) (ha3 : zkd a3 = 100) (ha4 : zr a4) (k3 : Int → zM → Option zM) (hk3 : ∀ (x4 : Int) (μ : zM) (hx4 : zr x4), zG K Z (zΩ Z) (zF K Z (zΩ Z) zeM) 0 0 3 [(0, .ref (Z.2.2.1 + a1)), (1, .int (zi a2)), (2, .ref (Z.2.2.1 + a3)), (3, .int (zi a4)), (4, .int (zi x4))] [] μ (k3 x4 μ)) (x4 : Int) (μ : zM) (hx4 : zr x4) : zG K Z (zΩ Z) (zF K Z (zΩ Z) zeM) 0 0 3 [(0, .ref (Z.2.2.1 + a1)), (1, .int (zi a2)), (2, .ref (Z.2.2.1 + a3)), (3, .int (zi a4)), (4, .int (zi x4))] [] μ (f7_copies_3 a1 a2 a3 a4 k3 x4 μ) := by
  obtain ⟨hK, hex⟩ := id hcx
  unfold f7_copies_3
  refine g_iload hK 4 rfl d7_copies_3 ?_
  refine g_sipush hK d7_copies_5 zks2256 ?_
  refine g_icmp_ge hK hx4 zc2256 (tgt := 29) (by decide) d7_copies_8 (fun _ => ?_) (fun _ => ?_)
  · exact g_vret hK rfl rfl d7_copies_29
  · refine g_aload_n hK 2 rfl rfl d7_copies_11 ?_
    refine g_iload_n hK 3 rfl rfl d7_copies_12 ?_
    refine g_iload hK 4 rfl d7_copies_13 ?_
    refine g_iadd hK d7_copies_15 (fun v1 hv1 => ?_)
    refine g_aload_n hK 0 rfl rfl d7_copies_16 ?_
    refine g_iload_n hK 1 rfl rfl d7_copies_17 ?_
    refine g_iload hK 4 rfl d7_copies_18 ?_
    refine g_iadd hK d7_copies_20 (fun v2 hv2 => ?_)
    refine g_iald hK ha1 d7_copies_21 (fun _ hl1 => ?_)
    refine g_iast hK hl1 ha3 d7_copies_22 (fun _ => ?_)
    refine g_ltM (fun m1 => ?_)
    refine g_iinc hK (lv2 := fun v3 => [(0, .ref (Z.2.2.1 + a1)), (1, .int (zi a2)), (2, .ref (Z.2.2.1 + a3)), (3, .int (zi a4)), (4, .int (zi v3))]) 4 rfl [1, 2, 3, 4, 0] (fun _ => rfl) (by decide) d7_copies_23 (fun v3 hv3 => ?_)
    refine g_goto hK (tgt := 3) (by decide) d7_copies_26 ?_
    exact hk3 v3 m1 hv3
set_option maxRecDepth 20000 in
theorem l7_copies_3 {K : zK} {Z : zZ} (hcx : zOk K Z b7_copies RX7 5 (none) 0 8 0 0 ∧ ∀ x ∈ K.2.2.2.2.2.2.2.2.2.exceptionTable.toList, False) (a1 : Nat) (a2 : Int) (a3 : Nat) (a4 : Int) (ha1 : zkd a1 = 100) (ha2 : zr a2) (ha3 : zkd a3 = 100) (ha4 : zr a4) : ∀ (i9 : Nat) (x4 : Int) (μ : zM) (hx4 : zr x4), zG K Z (zΩ Z) (zF K Z (zΩ Z) zeM) 0 0 3 [(0, .ref (Z.2.2.1 + a1)), (1, .int (zi a2)), (2, .ref (Z.2.2.1 + a3)), (3, .int (zi a4)), (4, .int (zi x4))] [] μ (zfx (f7_copies_3 a1 a2 a3 a4) (fun _ _ => none) i9 x4 μ) := by
  intro i9
  induction i9 with
  | zero => intro x4 μ hx4; exact g_none
  | succ i9 ih => intro x4 μ hx4; exact p7_copies_3 hcx a1 a2 a3 a4 ha1 ha2 ha3 ha4  (zfx (f7_copies_3 a1 a2 a3 a4) (fun _ _ => none) i9) ih x4 μ hx4
set_option maxRecDepth 20000 in
theorem c7_copies (l : Launch) (hst : l.stackTraces = false) (Z : zZ) (a1 : Nat) (a2 : Int) (a3 : Nat) (a4 : Int) (μ : zM) (ha1 : zkd a1 = 100) (ha2 : zr a2) (ha3 : zkd a3 = 100) (ha4 : zr a4) : ∀ x, f7_copies a1 a2 a3 a4 μ = some x → zCt l Z (zΩ Z) y7_copies (zws (.code y7_copies b7_copies 5 (none))) rm7_copies [.ref (Z.2.2.1 + a1), .int (zi a2), .ref (Z.2.2.1 + a3), .int (zi a4)] μ (zeM x) := by
  intro x h
  refine zCt.of (enc := zeM) h (by decide) hst (Nat.le_of_ble_eq_true rfl) (fun K hK0 hex hl _ => ?_)
  subst hl
  have hcx : zOk K Z b7_copies RX7 5 (none) 0 8 0 0 ∧ ∀ x ∈ K.2.2.2.2.2.2.2.2.2.exceptionTable.toList, False := ⟨hK0, hex⟩
  have hK := hcx.1
  show zG K Z (zΩ Z) (zF K Z (zΩ Z) zeM) 0 0 0 [(0, .ref (Z.2.2.1 + a1)), (1, .int (zi a2)), (2, .ref (Z.2.2.1 + a3)), (3, .int (zi a4))] [] μ (f7_copies a1 a2 a3 a4 μ)
  unfold f7_copies
  refine g_iconst hK d7_copies_0 zki0 ?_
  refine g_istore hK (lv2 := [(0, .ref (Z.2.2.1 + a1)), (1, .int (zi a2)), (2, .ref (Z.2.2.1 + a3)), (3, .int (zi a4)), (4, .int (zi 0))]) [1, 2, 3, 4, 0] rfl (by decide) d7_copies_1 ?_
  exact l7_copies_3 hcx a1 a2 a3 a4 ha1 ha2 ha3 ha4  zFu 0 μ zc0
set_option maxRecDepth 20000 in
theorem p7_noSnippet_23 {K : zK} {Z : zZ} (hcx : zOk K Z b7_noSnippet RX7 2 (some .boolean) 1 30 0 0 ∧ ∀ x ∈ K.2.2.2.2.2.2.2.2.2.exceptionTable.toList, False) (a1 : Int) (ha1 : zr a1) (s0 : Int) (μ : zM) (hs0 : zr s0) : zG K Z (zΩ Z) (zF K Z (zΩ Z) (ze2 mkZ)) 0 0 23 [] [.int (zi s0), .ref (Z.2.2.1 + 292)] μ (f7_noSnippet_23 a1 s0 μ) := by
  obtain ⟨hK, hex⟩ := id hcx
  unfold f7_noSnippet_23
  refine g_iconst hK d7_noSnippet_23 zki1 ?_
  refine g_callVcl hK (mk := mkZ) (rm := rm7_throwsIf) (cb := 0) (sb := 0) (As := [.int (zi s0), .int (zi 1)]) (b := 292) (n := 2) (c7_throwsIf K.2.1 hK.2.2.2.2.2.2.2.2.1 Z s0 1 μ hs0 zc1) rfl (ci := 7) rfl (by decide) kc_292 q_1317 q_1319 qs_7_throwsIf q_7 q_1320 rfl (by decide +kernel) (by decide) (Nat.le_of_ble_eq_true rfl) (Nat.le_of_ble_eq_true rfl) (Nat.le_of_ble_eq_true rfl) rfl d7_noSnippet_24 (fun r2 m1 hr2 hpr2 => ?_)
  exact g_zret hK (zb01 _) rfl rfl d7_noSnippet_27
set_option maxRecDepth 20000 in
theorem c7_noSnippet (l : Launch) (hst : l.stackTraces = false) (Z : zZ) (a1 : Int) (μ : zM) (ha1 : zr a1) : ∀ x, f7_noSnippet a1 μ = some x → zCt l Z (zΩ Z) y7_noSnippet (zws (.code y7_noSnippet b7_noSnippet 2 (some .boolean))) rm7_noSnippet [.ref (Z.2.2.1 + 292), .int (zi a1)] μ (ze2 mkZ x) := by
  intro x h
  refine zCt.of (enc := (ze2 mkZ)) h (by decide) hst (Nat.le_of_ble_eq_true rfl) (fun K hK0 hex hl _ => ?_)
  subst hl
  have hcx : zOk K Z b7_noSnippet RX7 2 (some .boolean) 1 30 0 0 ∧ ∀ x ∈ K.2.2.2.2.2.2.2.2.2.exceptionTable.toList, False := ⟨hK0, hex⟩
  have hK := hcx.1
  show zG K Z (zΩ Z) (zF K Z (zΩ Z) (ze2 mkZ)) 0 0 0 [(0, .ref (Z.2.2.1 + 292)), (1, .int (zi a1))] [] μ (f7_noSnippet a1 μ)
  unfold f7_noSnippet
  refine g_aload_n hK 0 rfl rfl d7_noSnippet_0 ?_
  refine g_iload_n hK 1 rfl rfl d7_noSnippet_1 ?_
  refine g_iconst hK d7_noSnippet_2 zki0 ?_
  refine g_aload_n hK 0 rfl rfl d7_noSnippet_3 ?_
  refine g_getM hK zfin_7 (fa_7_8 kc_292) q_1205 (w := 6) (by decide) d7_noSnippet_4 (fun hm1 => ?_)
  refine g_getIN hK zfin_6 (fa_6_0 hm1) qn_1138 d7_noSnippet_7 (fun hf1 => ?_)
  refine g_iconst hK d7_noSnippet_10 zki1 ?_
  refine g_isub hK d7_noSnippet_11 (fun v1 hv1 => ?_)
  refine g_callSco hK (mk := mkZ) (rm := rm7_within) (cb := 0) (sb := 0) (As := [.int (zi a1), .int (zi 0), .int (zi v1)]) (n := 3) (c7_within K.2.1 hK.2.2.2.2.2.2.2.2.1 Z a1 0 v1 μ ha1 zc0 hv1) q_1344 q_1345 q_7 q_1346 rfl (by decide +kernel) (by decide) (Nat.le_of_ble_eq_true rfl) (Nat.le_of_ble_eq_true rfl) (Nat.le_of_ble_eq_true rfl) rfl d7_noSnippet_12 (fun r1 hr1 hpr1 => ?_)
  refine g_if_ne hK (zb_r r1) (tgt := 22) (by decide) d7_noSnippet_15 (fun _ => ?_) (fun _ => ?_)
  · refine g_iconst hK d7_noSnippet_22 zki0 ?_
    refine g_lv (lv2 := []) [] rfl ?_
    exact p7_noSnippet_23 hcx a1 ha1  0 μ zc0
  · refine g_iconst hK d7_noSnippet_18 zki1 ?_
    refine g_goto hK (tgt := 23) (by decide) d7_noSnippet_19 ?_
    refine g_lv (lv2 := []) [] rfl ?_
    exact p7_noSnippet_23 hcx a1 ha1  1 μ zc1
set_option maxRecDepth 20000 in
theorem c7_isField (l : Launch) (hst : l.stackTraces = false) (Z : zZ) (a1 : Int) (μ : zM) (ha1 : zr a1) : ∀ x, f7_isField a1 = some x → zCt l Z (zΩ Z) y7_isField (zws (.code y7_isField b7_isField 1 (some .boolean))) rm7_isField [.int (zi a1)] μ (zeP mkZ μ x) := by
  intro x h
  refine zCt.of (enc := (zeP mkZ μ)) h (by decide) hst (Nat.le_of_ble_eq_true rfl) (fun K hK0 hex hl _ => ?_)
  subst hl
  have hcx : zOk K Z b7_isField RX7 1 (some .boolean) 1 30 0 0 ∧ ∀ x ∈ K.2.2.2.2.2.2.2.2.2.exceptionTable.toList, False := ⟨hK0, hex⟩
  have hK := hcx.1
  show zG K Z (zΩ Z) (zF K Z (zΩ Z) (zeP mkZ μ)) 0 0 0 [(0, .int (zi a1))] [] μ (f7_isField a1)
  unfold f7_isField
  refine g_iload_n hK 0 rfl rfl d7_isField_0 ?_
  refine g_iconst hK d7_isField_1 zki0 ?_
  refine g_bipush hK d7_isField_2 zkb9 ?_
  refine g_callSco hK (mk := mkZ) (rm := rm7_within) (cb := 0) (sb := 0) (As := [.int (zi a1), .int (zi 0), .int (zi 9)]) (n := 3) (c7_within K.2.1 hK.2.2.2.2.2.2.2.2.1 Z a1 0 9 μ ha1 zc0 zc9) q_1344 q_1345 q_7 q_1346 rfl (by decide +kernel) (by decide) (Nat.le_of_ble_eq_true rfl) (Nat.le_of_ble_eq_true rfl) (Nat.le_of_ble_eq_true rfl) rfl d7_isField_4 (fun r1 hr1 hpr1 => ?_)
  exact g_zret hK (zb01 _) rfl rfl d7_isField_7
set_option maxRecDepth 20000 in
theorem p7_bytesIn_5 {K : zK} {Z : zZ} (hcx : zOk K Z b7_bytesIn RX7 3 (some .int) 0 8 0 0 ∧ ∀ x ∈ K.2.2.2.2.2.2.2.2.2.exceptionTable.toList, False) (a1 : Int) (μ : zM) (ha1 : zr a1) (k5 : Int → Int → Option Int) (hk5 : ∀ (x1 : Int) (x2 : Int) (hx1 : zr x1) (hx2 : zr x2), zG K Z (zΩ Z) (zF K Z (zΩ Z) (zeP mkI μ)) 0 0 5 [(0, .int (zi a1)), (1, .int (zi x1)), (2, .int (zi x2))] [] μ (k5 x1 x2)) (x1 : Int) (x2 : Int) (hx1 : zr x1) (hx2 : zr x2) : zG K Z (zΩ Z) (zF K Z (zΩ Z) (zeP mkI μ)) 0 0 5 [(0, .int (zi a1)), (1, .int (zi x1)), (2, .int (zi x2))] [] μ (f7_bytesIn_5 a1 k5 x1 x2) := by
  obtain ⟨hK, hex⟩ := id hcx
  unfold f7_bytesIn_5
  refine g_iload_n hK 2 rfl rfl d7_bytesIn_5 ?_
  refine g_if_lt hK hx2 (tgt := 33) (by decide) d7_bytesIn_6 (fun _ => ?_) (fun _ => ?_)
  · refine g_iload_n hK 1 rfl rfl d7_bytesIn_33 ?_
    exact g_iret hK hx1 rfl rfl d7_bytesIn_34
  · refine g_iload_n hK 1 rfl rfl d7_bytesIn_9 ?_
    refine g_iload_n hK 0 rfl rfl d7_bytesIn_10 ?_
    refine g_iload_n hK 2 rfl rfl d7_bytesIn_11 ?_
    refine g_ishr hK d7_bytesIn_12 (fun v1 hv1 => ?_)
    refine g_sipush hK d7_bytesIn_13 zks255 ?_
    refine g_iand hK d7_bytesIn_16 (fun v2 hv2 => ?_)
    refine g_if_eq hK hv2 (tgt := 24) (by decide) d7_bytesIn_17 (fun _ => ?_) (fun _ => ?_)
    · refine g_iconst hK d7_bytesIn_24 zki0 ?_
      refine g_iadd hK d7_bytesIn_25 (fun v3 hv3 => ?_)
      refine g_istore_n hK (lv2 := [(0, .int (zi a1)), (1, .int (zi v3)), (2, .int (zi x2))]) [1, 0, 2] rfl rfl (by decide) d7_bytesIn_26 ?_
      refine g_iinc hK (lv2 := fun v4 => [(0, .int (zi a1)), (1, .int (zi v3)), (2, .int (zi v4))]) 2 rfl [1, 2, 0] (fun _ => rfl) (by decide) d7_bytesIn_27 (fun v4 hv4 => ?_)
      refine g_goto hK (tgt := 5) (by decide) d7_bytesIn_30 ?_
      exact hk5 v3 v4  hv3 hv4
    · refine g_iconst hK d7_bytesIn_20 zki1 ?_
      refine g_goto hK (tgt := 25) (by decide) d7_bytesIn_21 ?_
      refine g_iadd hK d7_bytesIn_25 (fun v5 hv5 => ?_)
      refine g_istore_n hK (lv2 := [(0, .int (zi a1)), (1, .int (zi v5)), (2, .int (zi x2))]) [1, 0, 2] rfl rfl (by decide) d7_bytesIn_26 ?_
      refine g_iinc hK (lv2 := fun v6 => [(0, .int (zi a1)), (1, .int (zi v5)), (2, .int (zi v6))]) 2 rfl [1, 2, 0] (fun _ => rfl) (by decide) d7_bytesIn_27 (fun v6 hv6 => ?_)
      refine g_goto hK (tgt := 5) (by decide) d7_bytesIn_30 ?_
      exact hk5 v5 v6  hv5 hv6
set_option maxRecDepth 20000 in
theorem l7_bytesIn_5 {K : zK} {Z : zZ} (hcx : zOk K Z b7_bytesIn RX7 3 (some .int) 0 8 0 0 ∧ ∀ x ∈ K.2.2.2.2.2.2.2.2.2.exceptionTable.toList, False) (a1 : Int) (μ : zM) (ha1 : zr a1) : ∀ (i9 : Nat) (x1 : Int) (x2 : Int) (hx1 : zr x1) (hx2 : zr x2), zG K Z (zΩ Z) (zF K Z (zΩ Z) (zeP mkI μ)) 0 0 5 [(0, .int (zi a1)), (1, .int (zi x1)), (2, .int (zi x2))] [] μ (zfx (f7_bytesIn_5 a1) (fun _ _ => none) i9 x1 x2) := by
  intro i9
  induction i9 with
  | zero => intro x1 x2 hx1 hx2; exact g_none
  | succ i9 ih => intro x1 x2 hx1 hx2; exact p7_bytesIn_5 hcx a1 μ ha1  (zfx (f7_bytesIn_5 a1) (fun _ _ => none) i9) ih x1 x2 hx1 hx2
set_option maxRecDepth 20000 in
theorem c7_bytesIn (l : Launch) (hst : l.stackTraces = false) (Z : zZ) (a1 : Int) (μ : zM) (ha1 : zr a1) : ∀ x, f7_bytesIn a1 = some x → zCt l Z (zΩ Z) y7_bytesIn (zws (.code y7_bytesIn b7_bytesIn 3 (some .int))) rm7_bytesIn [.int (zi a1)] μ (zeP mkI μ x) := by
  intro x h
  refine zCt.of (enc := (zeP mkI μ)) h (by decide) hst (Nat.le_of_ble_eq_true rfl) (fun K hK0 hex hl _ => ?_)
  subst hl
  have hcx : zOk K Z b7_bytesIn RX7 3 (some .int) 0 8 0 0 ∧ ∀ x ∈ K.2.2.2.2.2.2.2.2.2.exceptionTable.toList, False := ⟨hK0, hex⟩
  have hK := hcx.1
  show zG K Z (zΩ Z) (zF K Z (zΩ Z) (zeP mkI μ)) 0 0 0 [(0, .int (zi a1))] [] μ (f7_bytesIn a1)
  unfold f7_bytesIn
  refine g_iconst hK d7_bytesIn_0 zki0 ?_
  refine g_istore_n hK (lv2 := [(0, .int (zi a1)), (1, .int (zi 0))]) [1, 0] rfl rfl (by decide) d7_bytesIn_1 ?_
  refine g_bipush hK d7_bytesIn_2 zkb24 ?_
  refine g_istore_n hK (lv2 := [(0, .int (zi a1)), (1, .int (zi 0)), (2, .int (zi 24))]) [1, 2, 0] rfl rfl (by decide) d7_bytesIn_4 ?_
  exact l7_bytesIn_5 hcx a1 μ ha1  zFu 0 24  zc0 zc24
set_option maxRecDepth 20000 in
theorem p7_puts_3 {K : zK} {Z : zZ} (hcx : zOk K Z b7_puts RX7 3 (none) 0 8 0 0 ∧ ∀ x ∈ K.2.2.2.2.2.2.2.2.2.exceptionTable.toList, False) (a1 : Int) (ha1 : zr a1) (k3 : Int → zM → Option zM) (hk3 : ∀ (x2 : Int) (μ : zM) (hx2 : zr x2), zG K Z (zΩ Z) (zF K Z (zΩ Z) zeM) 0 0 3 [(0, .ref (Z.2.2.1 + 292)), (1, .int (zi a1)), (2, .int (zi x2))] [] μ (k3 x2 μ)) (x2 : Int) (μ : zM) (hx2 : zr x2) : zG K Z (zΩ Z) (zF K Z (zΩ Z) zeM) 0 0 3 [(0, .ref (Z.2.2.1 + 292)), (1, .int (zi a1)), (2, .int (zi x2))] [] μ (f7_puts_3 a1 k3 x2 μ) := by
  obtain ⟨hK, hex⟩ := id hcx
  unfold f7_puts_3
  refine g_iload_n hK 2 rfl rfl d7_puts_3 ?_
  refine g_if_lt hK hx2 (tgt := 49) (by decide) d7_puts_4 (fun _ => ?_) (fun _ => ?_)
  · exact g_vret hK rfl rfl d7_puts_49
  · refine g_iload_n hK 1 rfl rfl d7_puts_7 ?_
    refine g_iload_n hK 2 rfl rfl d7_puts_8 ?_
    refine g_ishr hK d7_puts_9 (fun v1 hv1 => ?_)
    refine g_sipush hK d7_puts_10 zks255 ?_
    refine g_iand hK d7_puts_13 (fun v2 hv2 => ?_)
    refine g_if_eq hK hv2 (tgt := 43) (by decide) d7_puts_14 (fun _ => ?_) (fun _ => ?_)
    · refine g_iinc hK (lv2 := fun v3 => [(0, .ref (Z.2.2.1 + 292)), (1, .int (zi a1)), (2, .int (zi v3))]) 2 rfl [1, 2, 0] (fun _ => rfl) (by decide) d7_puts_43 (fun v3 hv3 => ?_)
      refine g_goto hK (tgt := 3) (by decide) d7_puts_46 ?_
      exact hk3 v3 μ hv3
    · refine g_aload_n hK 0 rfl rfl d7_puts_17 ?_
      refine g_getR hK zfin_7 (fa_7_9 kc_292) q_1206 (r := 313) (by decide +kernel) d7_puts_18 ?_
      refine g_aload_n hK 0 rfl rfl d7_puts_21 ?_
      refine g_getI hK zfin_7 (fa_7_10 kc_292) q_1207 d7_puts_22 (fun hf1 => ?_)
      refine g_iload_n hK 1 rfl rfl d7_puts_25 ?_
      refine g_iload_n hK 2 rfl rfl d7_puts_26 ?_
      refine g_ishr hK d7_puts_27 (fun v4 hv4 => ?_)
      refine g_sipush hK d7_puts_28 zks255 ?_
      refine g_iand hK d7_puts_31 (fun v5 hv5 => ?_)
      refine g_iast hK hv5 kc_313 d7_puts_32 (fun _ => ?_)
      refine g_ltM (fun m1 => ?_)
      refine g_aload_n hK 0 rfl rfl d7_puts_33 ?_
      refine g_dup hK d7_puts_34 rfl ?_
      refine g_getI hK zfin_7 (fa_7_10 kc_292) q_1207 d7_puts_35 (fun hf2 => ?_)
      refine g_iconst hK d7_puts_38 zki1 ?_
      refine g_iadd hK d7_puts_39 (fun v6 hv6 => ?_)
      refine g_putI hK zfin_7 (fa_7_10 kc_292) q_1207 hv6 rfl (tyX7_ok 10 (by decide)) tyX7 tyX7_ok nmX7 d7_puts_40 ?_
      refine g_ltM (fun m2 => ?_)
      refine g_iinc hK (lv2 := fun v7 => [(0, .ref (Z.2.2.1 + 292)), (1, .int (zi a1)), (2, .int (zi v7))]) 2 rfl [1, 2, 0] (fun _ => rfl) (by decide) d7_puts_43 (fun v7 hv7 => ?_)
      refine g_goto hK (tgt := 3) (by decide) d7_puts_46 ?_
      exact hk3 v7 m2 hv7
set_option maxRecDepth 20000 in
theorem l7_puts_3 {K : zK} {Z : zZ} (hcx : zOk K Z b7_puts RX7 3 (none) 0 8 0 0 ∧ ∀ x ∈ K.2.2.2.2.2.2.2.2.2.exceptionTable.toList, False) (a1 : Int) (ha1 : zr a1) : ∀ (i9 : Nat) (x2 : Int) (μ : zM) (hx2 : zr x2), zG K Z (zΩ Z) (zF K Z (zΩ Z) zeM) 0 0 3 [(0, .ref (Z.2.2.1 + 292)), (1, .int (zi a1)), (2, .int (zi x2))] [] μ (zfx (f7_puts_3 a1) (fun _ _ => none) i9 x2 μ) := by
  intro i9
  induction i9 with
  | zero => intro x2 μ hx2; exact g_none
  | succ i9 ih => intro x2 μ hx2; exact p7_puts_3 hcx a1 ha1  (zfx (f7_puts_3 a1) (fun _ _ => none) i9) ih x2 μ hx2
set_option maxRecDepth 20000 in
theorem c7_puts (l : Launch) (hst : l.stackTraces = false) (Z : zZ) (a1 : Int) (μ : zM) (ha1 : zr a1) : ∀ x, f7_puts a1 μ = some x → zCt l Z (zΩ Z) y7_puts (zws (.code y7_puts b7_puts 3 (none))) rm7_puts [.ref (Z.2.2.1 + 292), .int (zi a1)] μ (zeM x) := by
  intro x h
  refine zCt.of (enc := zeM) h (by decide) hst (Nat.le_of_ble_eq_true rfl) (fun K hK0 hex hl _ => ?_)
  subst hl
  have hcx : zOk K Z b7_puts RX7 3 (none) 0 8 0 0 ∧ ∀ x ∈ K.2.2.2.2.2.2.2.2.2.exceptionTable.toList, False := ⟨hK0, hex⟩
  have hK := hcx.1
  show zG K Z (zΩ Z) (zF K Z (zΩ Z) zeM) 0 0 0 [(0, .ref (Z.2.2.1 + 292)), (1, .int (zi a1))] [] μ (f7_puts a1 μ)
  unfold f7_puts
  refine g_bipush hK d7_puts_0 zkb24 ?_
  refine g_istore_n hK (lv2 := [(0, .ref (Z.2.2.1 + 292)), (1, .int (zi a1)), (2, .int (zi 24))]) [1, 2, 0] rfl rfl (by decide) d7_puts_2 ?_
  exact l7_puts_3 hcx a1 ha1  zFu 24 μ zc24
set_option maxRecDepth 20000 in
theorem p7_append_48 {K : zK} {Z : zZ} (hcx : zOk K Z b7_append RX7 6 (some .int) 1 30 0 0 ∧ ∀ x ∈ K.2.2.2.2.2.2.2.2.2.exceptionTable.toList, False) (a1 : Int) (a2 : Int) (a3 : Int) (a4 : Int) (a5 : Int) (ha1 : zr a1) (ha2 : zr a2) (ha3 : zr a3) (ha4 : zr a4) (ha5 : zr a5) (s0 : Int) (μ : zM) (hs0 : zr s0) : zG K Z (zΩ Z) (zF K Z (zΩ Z) (ze2 mkI)) 0 0 48 [(0, .ref (Z.2.2.1 + 292)), (1, .int (zi a1)), (2, .int (zi a2)), (3, .int (zi a3)), (4, .int (zi a4)), (5, .int (zi a5))] [.int (zi s0), .ref (Z.2.2.1 + 292)] μ (f7_append_48 a1 a2 a3 a4 a5 s0 μ) := by
  obtain ⟨hK, hex⟩ := id hcx
  unfold f7_append_48
  refine g_iconst hK d7_append_48 zki1 ?_
  refine g_callVcl hK (mk := mkZ) (rm := rm7_throwsIf) (cb := 0) (sb := 0) (As := [.int (zi s0), .int (zi 1)]) (b := 292) (n := 2) (c7_throwsIf K.2.1 hK.2.2.2.2.2.2.2.2.1 Z s0 1 μ hs0 zc1) rfl (ci := 7) rfl (by decide) kc_292 q_1317 q_1319 qs_7_throwsIf q_7 q_1320 rfl (by decide +kernel) (by decide) (Nat.le_of_ble_eq_true rfl) (Nat.le_of_ble_eq_true rfl) (Nat.le_of_ble_eq_true rfl) rfl d7_append_49 (fun r6 m2 hr6 hpr6 => ?_)
  refine g_if_eq hK (zb_r r6) (tgt := 57) (by decide) d7_append_52 (fun _ => ?_) (fun _ => ?_)
  · refine g_aload_n hK 0 rfl rfl d7_append_57 ?_
    refine g_iload_n hK 1 rfl rfl d7_append_58 ?_
    refine g_callVcm hK (rm := rm7_puts) (cb := 0) (sb := 0) (As := [.int (zi a1)]) (b := 292) (n := 1) (c7_puts K.2.1 hK.2.2.2.2.2.2.2.2.1 Z a1 m2 ha1) rfl (ci := 7) rfl (by decide) kc_292 q_1321 q_1323 qs_7_puts q_7 q_1324 rfl (by decide +kernel) (by decide) (Nat.le_of_ble_eq_true rfl) (Nat.le_of_ble_eq_true rfl) (Nat.le_of_ble_eq_true rfl) rfl d7_append_59 (fun m3 hm3 => ?_)
    refine g_aload_n hK 0 rfl rfl d7_append_62 ?_
    refine g_iload_n hK 2 rfl rfl d7_append_63 ?_
    refine g_callVcm hK (rm := rm7_puts) (cb := 0) (sb := 0) (As := [.int (zi a2)]) (b := 292) (n := 1) (c7_puts K.2.1 hK.2.2.2.2.2.2.2.2.1 Z a2 m3 ha2) rfl (ci := 7) rfl (by decide) kc_292 q_1321 q_1323 qs_7_puts q_7 q_1324 rfl (by decide +kernel) (by decide) (Nat.le_of_ble_eq_true rfl) (Nat.le_of_ble_eq_true rfl) (Nat.le_of_ble_eq_true rfl) rfl d7_append_64 (fun m4 hm4 => ?_)
    refine g_aload_n hK 0 rfl rfl d7_append_67 ?_
    refine g_iload_n hK 3 rfl rfl d7_append_68 ?_
    refine g_callVcm hK (rm := rm7_puts) (cb := 0) (sb := 0) (As := [.int (zi a3)]) (b := 292) (n := 1) (c7_puts K.2.1 hK.2.2.2.2.2.2.2.2.1 Z a3 m4 ha3) rfl (ci := 7) rfl (by decide) kc_292 q_1321 q_1323 qs_7_puts q_7 q_1324 rfl (by decide +kernel) (by decide) (Nat.le_of_ble_eq_true rfl) (Nat.le_of_ble_eq_true rfl) (Nat.le_of_ble_eq_true rfl) rfl d7_append_69 (fun m5 hm5 => ?_)
    refine g_aload_n hK 0 rfl rfl d7_append_72 ?_
    refine g_iload hK 4 rfl d7_append_73 ?_
    refine g_callVcm hK (rm := rm7_puts) (cb := 0) (sb := 0) (As := [.int (zi a4)]) (b := 292) (n := 1) (c7_puts K.2.1 hK.2.2.2.2.2.2.2.2.1 Z a4 m5 ha4) rfl (ci := 7) rfl (by decide) kc_292 q_1321 q_1323 qs_7_puts q_7 q_1324 rfl (by decide +kernel) (by decide) (Nat.le_of_ble_eq_true rfl) (Nat.le_of_ble_eq_true rfl) (Nat.le_of_ble_eq_true rfl) rfl d7_append_75 (fun m6 hm6 => ?_)
    refine g_aload_n hK 0 rfl rfl d7_append_78 ?_
    refine g_iload hK 5 rfl d7_append_79 ?_
    refine g_callVcm hK (rm := rm7_puts) (cb := 0) (sb := 0) (As := [.int (zi a5)]) (b := 292) (n := 1) (c7_puts K.2.1 hK.2.2.2.2.2.2.2.2.1 Z a5 m6 ha5) rfl (ci := 7) rfl (by decide) kc_292 q_1321 q_1323 qs_7_puts q_7 q_1324 rfl (by decide +kernel) (by decide) (Nat.le_of_ble_eq_true rfl) (Nat.le_of_ble_eq_true rfl) (Nat.le_of_ble_eq_true rfl) rfl d7_append_81 (fun m7 hm7 => ?_)
    refine g_aload_n hK 0 rfl rfl d7_append_84 ?_
    refine g_getI hK zfin_7 (fa_7_10 kc_292) q_1207 d7_append_85 (fun hf2 => ?_)
    exact g_iret hK hf2 rfl rfl d7_append_88
  · refine g_iconst hK d7_append_55 zki0 ?_
    exact g_iret hK zc0 rfl rfl d7_append_56
set_option maxRecDepth 20000 in
theorem c7_append (l : Launch) (hst : l.stackTraces = false) (Z : zZ) (a1 : Int) (a2 : Int) (a3 : Int) (a4 : Int) (a5 : Int) (μ : zM) (ha1 : zr a1) (ha2 : zr a2) (ha3 : zr a3) (ha4 : zr a4) (ha5 : zr a5) : ∀ x, f7_append a1 a2 a3 a4 a5 μ = some x → zCt l Z (zΩ Z) y7_append (zws (.code y7_append b7_append 6 (some .int))) rm7_append [.ref (Z.2.2.1 + 292), .int (zi a1), .int (zi a2), .int (zi a3), .int (zi a4), .int (zi a5)] μ (ze2 mkI x) := by
  intro x h
  refine zCt.of (enc := (ze2 mkI)) h (by decide) hst (Nat.le_of_ble_eq_true rfl) (fun K hK0 hex hl _ => ?_)
  subst hl
  have hcx : zOk K Z b7_append RX7 6 (some .int) 1 30 0 0 ∧ ∀ x ∈ K.2.2.2.2.2.2.2.2.2.exceptionTable.toList, False := ⟨hK0, hex⟩
  have hK := hcx.1
  show zG K Z (zΩ Z) (zF K Z (zΩ Z) (ze2 mkI)) 0 0 0 [(0, .ref (Z.2.2.1 + 292)), (1, .int (zi a1)), (2, .int (zi a2)), (3, .int (zi a3)), (4, .int (zi a4)), (5, .int (zi a5))] [] μ (f7_append a1 a2 a3 a4 a5 μ)
  unfold f7_append
  refine g_aload_n hK 0 rfl rfl d7_append_0 ?_
  refine g_iconst hK d7_append_1 zki0 ?_
  refine g_putI hK zfin_7 (fa_7_0 kc_292) q_1197 zc0 rfl (tyX7_ok 0 (by decide)) tyX7 tyX7_ok nmX7 d7_append_2 ?_
  refine g_ltM (fun m1 => ?_)
  refine g_aload_n hK 0 rfl rfl d7_append_5 ?_
  refine g_aload_n hK 0 rfl rfl d7_append_6 ?_
  refine g_getI hK zfin_7 (fa_7_10 kc_292) q_1207 d7_append_7 (fun hf1 => ?_)
  refine g_iload_n hK 1 rfl rfl d7_append_10 ?_
  refine g_callSco hK (mk := mkI) (rm := rm7_bytesIn) (cb := 0) (sb := 0) (As := [.int (zi a1)]) (n := 1) (c7_bytesIn K.2.1 hK.2.2.2.2.2.2.2.2.1 Z a1 m1 ha1) q_1314 q_1315 q_7 q_1316 rfl (by decide +kernel) (by decide) (Nat.le_of_ble_eq_true rfl) (Nat.le_of_ble_eq_true rfl) (Nat.le_of_ble_eq_true rfl) rfl d7_append_11 (fun r1 hr1 hpr1 => ?_)
  refine g_iadd hK d7_append_14 (fun v1 hv1 => ?_)
  refine g_iload_n hK 2 rfl rfl d7_append_15 ?_
  refine g_callSco hK (mk := mkI) (rm := rm7_bytesIn) (cb := 0) (sb := 0) (As := [.int (zi a2)]) (n := 1) (c7_bytesIn K.2.1 hK.2.2.2.2.2.2.2.2.1 Z a2 m1 ha2) q_1314 q_1315 q_7 q_1316 rfl (by decide +kernel) (by decide) (Nat.le_of_ble_eq_true rfl) (Nat.le_of_ble_eq_true rfl) (Nat.le_of_ble_eq_true rfl) rfl d7_append_16 (fun r2 hr2 hpr2 => ?_)
  refine g_iadd hK d7_append_19 (fun v2 hv2 => ?_)
  refine g_iload_n hK 3 rfl rfl d7_append_20 ?_
  refine g_callSco hK (mk := mkI) (rm := rm7_bytesIn) (cb := 0) (sb := 0) (As := [.int (zi a3)]) (n := 1) (c7_bytesIn K.2.1 hK.2.2.2.2.2.2.2.2.1 Z a3 m1 ha3) q_1314 q_1315 q_7 q_1316 rfl (by decide +kernel) (by decide) (Nat.le_of_ble_eq_true rfl) (Nat.le_of_ble_eq_true rfl) (Nat.le_of_ble_eq_true rfl) rfl d7_append_21 (fun r3 hr3 hpr3 => ?_)
  refine g_iadd hK d7_append_24 (fun v3 hv3 => ?_)
  refine g_iload hK 4 rfl d7_append_25 ?_
  refine g_callSco hK (mk := mkI) (rm := rm7_bytesIn) (cb := 0) (sb := 0) (As := [.int (zi a4)]) (n := 1) (c7_bytesIn K.2.1 hK.2.2.2.2.2.2.2.2.1 Z a4 m1 ha4) q_1314 q_1315 q_7 q_1316 rfl (by decide +kernel) (by decide) (Nat.le_of_ble_eq_true rfl) (Nat.le_of_ble_eq_true rfl) (Nat.le_of_ble_eq_true rfl) rfl d7_append_27 (fun r4 hr4 hpr4 => ?_)
  refine g_iadd hK d7_append_30 (fun v4 hv4 => ?_)
  refine g_iload hK 5 rfl d7_append_31 ?_
  refine g_callSco hK (mk := mkI) (rm := rm7_bytesIn) (cb := 0) (sb := 0) (As := [.int (zi a5)]) (n := 1) (c7_bytesIn K.2.1 hK.2.2.2.2.2.2.2.2.1 Z a5 m1 ha5) q_1314 q_1315 q_7 q_1316 rfl (by decide +kernel) (by decide) (Nat.le_of_ble_eq_true rfl) (Nat.le_of_ble_eq_true rfl) (Nat.le_of_ble_eq_true rfl) rfl d7_append_33 (fun r5 hr5 hpr5 => ?_)
  refine g_iadd hK d7_append_36 (fun v5 hv5 => ?_)
  refine g_sipush hK d7_append_37 zks700 ?_
  refine g_icmp_le hK hv5 zc700 (tgt := 47) (by decide) d7_append_40 (fun _ => ?_) (fun _ => ?_)
  · refine g_iconst hK d7_append_47 zki0 ?_
    exact p7_append_48 hcx a1 a2 a3 a4 a5 ha1 ha2 ha3 ha4 ha5  0 m1 zc0
  · refine g_iconst hK d7_append_43 zki1 ?_
    refine g_goto hK (tgt := 48) (by decide) d7_append_44 ?_
    exact p7_append_48 hcx a1 a2 a3 a4 a5 ha1 ha2 ha3 ha4 ha5  1 m1 zc1
set_option maxRecDepth 20000 in
theorem c7_byteAt (l : Launch) (hst : l.stackTraces = false) (Z : zZ) (a1 : Int) (μ : zM) (ha1 : zr a1) : ∀ x, f7_byteAt a1 μ = some x → zCt l Z (zΩ Z) y7_byteAt (zws (.code y7_byteAt b7_byteAt 2 (some .int))) rm7_byteAt [.ref (Z.2.2.1 + 292), .int (zi a1)] μ (zeP mkI μ x) := by
  intro x h
  refine zCt.of (enc := (zeP mkI μ)) h (by decide) hst (Nat.le_of_ble_eq_true rfl) (fun K hK0 hex hl _ => ?_)
  subst hl
  have hcx : zOk K Z b7_byteAt RX7 2 (some .int) 0 8 0 0 ∧ ∀ x ∈ K.2.2.2.2.2.2.2.2.2.exceptionTable.toList, False := ⟨hK0, hex⟩
  have hK := hcx.1
  show zG K Z (zΩ Z) (zF K Z (zΩ Z) (zeP mkI μ)) 0 0 0 [(0, .ref (Z.2.2.1 + 292)), (1, .int (zi a1))] [] μ (f7_byteAt a1 μ)
  unfold f7_byteAt
  refine g_iload_n hK 1 rfl rfl d7_byteAt_0 ?_
  refine g_aload_n hK 0 rfl rfl d7_byteAt_1 ?_
  refine g_getI hK zfin_7 (fa_7_10 kc_292) q_1207 d7_byteAt_2 (fun hf1 => ?_)
  refine g_icmp_ge hK ha1 hf1 (tgt := 17) (by decide) d7_byteAt_5 (fun _ => ?_) (fun _ => ?_)
  · refine g_iconst hK d7_byteAt_17 zkim1 ?_
    exact g_iret hK zcm1 rfl rfl d7_byteAt_18
  · refine g_aload_n hK 0 rfl rfl d7_byteAt_8 ?_
    refine g_getR hK zfin_7 (fa_7_9 kc_292) q_1206 (r := 313) (by decide +kernel) d7_byteAt_9 ?_
    refine g_iload_n hK 1 rfl rfl d7_byteAt_12 ?_
    refine g_iald hK kc_313 d7_byteAt_13 (fun _ hl1 => ?_)
    refine g_goto hK (tgt := 18) (by decide) d7_byteAt_14 ?_
    exact g_iret hK hl1 rfl rfl d7_byteAt_18
set_option maxRecDepth 20000 in
theorem c7_fails (l : Launch) (hst : l.stackTraces = false) (Z : zZ) (a1 : Int) (a2 : Int) (μ : zM) (ha1 : zr a1) (ha2 : zr a2) : ∀ x, f7_fails a1 a2 μ = some x → zCt l Z (zΩ Z) y7_fails (zws (.code y7_fails b7_fails 3 (some .boolean))) rm7_fails [.ref (Z.2.2.1 + 292), .int (zi a1), .int (zi a2)] μ (ze2 mkZ x) := by
  intro x h
  refine zCt.of (enc := (ze2 mkZ)) h (by decide) hst (Nat.le_of_ble_eq_true rfl) (fun K hK0 hex hl _ => ?_)
  subst hl
  have hcx : zOk K Z b7_fails RX7 3 (some .boolean) 0 8 0 0 ∧ ∀ x ∈ K.2.2.2.2.2.2.2.2.2.exceptionTable.toList, False := ⟨hK0, hex⟩
  have hK := hcx.1
  show zG K Z (zΩ Z) (zF K Z (zΩ Z) (ze2 mkZ)) 0 0 0 [(0, .ref (Z.2.2.1 + 292)), (1, .int (zi a1)), (2, .int (zi a2))] [] μ (f7_fails a1 a2 μ)
  unfold f7_fails
  refine g_aload_n hK 0 rfl rfl d7_fails_0 ?_
  refine g_getI hK zfin_7 (fa_7_11 kc_292) q_1208 d7_fails_1 (fun hf1 => ?_)
  refine g_if_ne hK hf1 (tgt := 17) (by decide) d7_fails_4 (fun _ => ?_) (fun _ => ?_)
  · refine g_iconst hK d7_fails_17 zki0 ?_
    exact g_zret hK (by decide) rfl rfl d7_fails_18
  · refine g_aload_n hK 0 rfl rfl d7_fails_7 ?_
    refine g_iload_n hK 1 rfl rfl d7_fails_8 ?_
    refine g_putI hK zfin_7 (fa_7_11 kc_292) q_1208 ha1 rfl (tyX7_ok 11 (by decide)) tyX7 tyX7_ok nmX7 d7_fails_9 ?_
    refine g_ltM (fun m1 => ?_)
    refine g_aload_n hK 0 rfl rfl d7_fails_12 ?_
    refine g_iload_n hK 2 rfl rfl d7_fails_13 ?_
    refine g_putI hK zfin_7 (fa_7_12 kc_292) q_1209 ha2 rfl (tyX7_ok 12 (by decide)) tyX7 tyX7_ok nmX7 d7_fails_14 ?_
    refine g_ltM (fun m2 => ?_)
    refine g_iconst hK d7_fails_17 zki0 ?_
    exact g_zret hK (by decide) rfl rfl d7_fails_18
set_option maxRecDepth 20000 in
theorem c7_isLetter (l : Launch) (hst : l.stackTraces = false) (Z : zZ) (a1 : Int) (μ : zM) (ha1 : zr a1) : ∀ x, f7_isLetter a1 = some x → zCt l Z (zΩ Z) y7_isLetter (zws (.code y7_isLetter b7_isLetter 1 (some .boolean))) rm7_isLetter [.int (zi a1)] μ (zeP mkZ μ x) := by
  intro x h
  refine zCt.of (enc := (zeP mkZ μ)) h (by decide) hst (Nat.le_of_ble_eq_true rfl) (fun K hK0 hex hl _ => ?_)
  subst hl
  have hcx : zOk K Z b7_isLetter RX7 1 (some .boolean) 1 30 0 0 ∧ ∀ x ∈ K.2.2.2.2.2.2.2.2.2.exceptionTable.toList, False := ⟨hK0, hex⟩
  have hK := hcx.1
  show zG K Z (zΩ Z) (zF K Z (zΩ Z) (zeP mkZ μ)) 0 0 0 [(0, .int (zi a1))] [] μ (f7_isLetter a1)
  unfold f7_isLetter
  refine g_iload_n hK 0 rfl rfl d7_isLetter_0 ?_
  refine g_bipush hK d7_isLetter_1 zkb97 ?_
  refine g_bipush hK d7_isLetter_3 zkb122 ?_
  refine g_callSco hK (mk := mkZ) (rm := rm7_within) (cb := 0) (sb := 0) (As := [.int (zi a1), .int (zi 97), .int (zi 122)]) (n := 3) (c7_within K.2.1 hK.2.2.2.2.2.2.2.2.1 Z a1 97 122 μ ha1 zc97 zc122) q_1344 q_1345 q_7 q_1346 rfl (by decide +kernel) (by decide) (Nat.le_of_ble_eq_true rfl) (Nat.le_of_ble_eq_true rfl) (Nat.le_of_ble_eq_true rfl) rfl d7_isLetter_5 (fun r1 hr1 hpr1 => ?_)
  exact g_zret hK (zb01 _) rfl rfl d7_isLetter_8
set_option maxRecDepth 20000 in
theorem p7_token_26 {K : zK} {Z : zZ} (hcx : zOk K Z b7_token RX7 1 (none) 2 50 0 0 ∧ ∀ x ∈ K.2.2.2.2.2.2.2.2.2.exceptionTable.toList, False) (k0 : zM → Option zM) (hk0 : ∀ (μ : zM), zG K Z (zΩ Z) (zF K Z (zΩ Z) zeM) 0 0 0 [(0, .ref (Z.2.2.1 + 292))] [] μ (k0 μ)) (μ : zM) : zG K Z (zΩ Z) (zF K Z (zΩ Z) zeM) 0 0 26 [(0, .ref (Z.2.2.1 + 292))] [] μ (f7_token_26 k0 μ) := by
  obtain ⟨hK, hex⟩ := id hcx
  unfold f7_token_26
  refine g_aload_n hK 0 rfl rfl d7_token_26 ?_
  refine g_dup hK d7_token_27 rfl ?_
  refine g_getI hK zfin_7 (fa_7_14 kc_292) q_1211 d7_token_28 (fun hf5 => ?_)
  refine g_iconst hK d7_token_31 zki1 ?_
  refine g_iadd hK d7_token_32 (fun v1 hv1 => ?_)
  refine g_putI hK zfin_7 (fa_7_14 kc_292) q_1211 hv1 rfl (tyX7_ok 14 (by decide)) tyX7 tyX7_ok nmX7 d7_token_33 ?_
  refine g_ltM (fun m3 => ?_)
  refine g_goto hK (tgt := 0) (by decide) d7_token_36 ?_
  exact hk0  m3 
set_option maxRecDepth 20000 in
theorem p7_token_118 {K : zK} {Z : zZ} (hcx : zOk K Z b7_token RX7 1 (none) 2 50 0 0 ∧ ∀ x ∈ K.2.2.2.2.2.2.2.2.2.exceptionTable.toList, False) (s0 : Int) (s1 : Int) (μ : zM) (hs0 : zr s0) (hs1 : zr s1) : zG K Z (zΩ Z) (zF K Z (zΩ Z) zeM) 0 0 118 [(0, .ref (Z.2.2.1 + 292))] [.int (zi s0), .int (zi s1), .ref (Z.2.2.1 + 292)] μ (f7_token_118 s0 s1 μ) := by
  obtain ⟨hK, hex⟩ := id hcx
  unfold f7_token_118
  refine g_iadd hK d7_token_118 (fun v3 hv3 => ?_)
  refine g_putI hK zfin_7 (fa_7_14 kc_292) q_1211 hv3 rfl (tyX7_ok 14 (by decide)) tyX7 tyX7_ok nmX7 d7_token_119 ?_
  refine g_ltM (fun m5 => ?_)
  refine g_aload_n hK 0 rfl rfl d7_token_122 ?_
  refine g_aload_n hK 0 rfl rfl d7_token_123 ?_
  refine g_getI hK zfin_7 (fa_7_14 kc_292) q_1211 d7_token_124 (fun hf11 => ?_)
  refine g_putI hK zfin_7 (fa_7_16 kc_292) q_1213 hf11 rfl (tyX7_ok 16 (by decide)) tyX7 tyX7_ok nmX7 d7_token_127 ?_
  refine g_ltM (fun m6 => ?_)
  exact g_vret hK rfl rfl d7_token_130
set_option maxRecDepth 20000 in
theorem p7_token_62 {K : zK} {Z : zZ} (hcx : zOk K Z b7_token RX7 1 (none) 2 50 0 0 ∧ ∀ x ∈ K.2.2.2.2.2.2.2.2.2.exceptionTable.toList, False) (k62 : zM → Option zM) (hk62 : ∀ (μ : zM), zG K Z (zΩ Z) (zF K Z (zΩ Z) zeM) 0 0 62 [(0, .ref (Z.2.2.1 + 292))] [] μ (k62 μ)) (μ : zM) : zG K Z (zΩ Z) (zF K Z (zΩ Z) zeM) 0 0 62 [(0, .ref (Z.2.2.1 + 292))] [] μ (f7_token_62 k62 μ) := by
  obtain ⟨hK, hex⟩ := id hcx
  unfold f7_token_62
  refine g_aload_n hK 0 rfl rfl d7_token_62 ?_
  refine g_aload_n hK 0 rfl rfl d7_token_63 ?_
  refine g_getI hK zfin_7 (fa_7_14 kc_292) q_1211 d7_token_64 (fun hf6 => ?_)
  refine g_callVco hK (mk := mkI) (rm := rm7_byteAt) (cb := 0) (sb := 0) (As := [.int (zi (zI μ 292 14))]) (b := 292) (n := 1) (c7_byteAt K.2.1 hK.2.2.2.2.2.2.2.2.1 Z (zI μ 292 14) μ hf6) rfl (ci := 7) rfl (by decide) kc_292 q_1337 q_1339 qs_7_byteAt q_7 q_1340 rfl (by decide +kernel) (by decide) (Nat.le_of_ble_eq_true rfl) (Nat.le_of_ble_eq_true rfl) (Nat.le_of_ble_eq_true rfl) rfl d7_token_67 (fun r5 hr5 hpr5 => ?_)
  refine g_callSco hK (mk := mkZ) (rm := rm7_isLetter) (cb := 0) (sb := 0) (As := [.int (zi r5)]) (n := 1) (c7_isLetter K.2.1 hK.2.2.2.2.2.2.2.2.1 Z r5 μ hpr5) q_1341 q_1342 q_7 q_1343 rfl (by decide +kernel) (by decide) (Nat.le_of_ble_eq_true rfl) (Nat.le_of_ble_eq_true rfl) (Nat.le_of_ble_eq_true rfl) rfl d7_token_70 (fun r6 hr6 hpr6 => ?_)
  refine g_if_eq hK (zb_r r6) (tgt := 89) (by decide) d7_token_73 (fun _ => ?_) (fun _ => ?_)
  · refine g_aload_n hK 0 rfl rfl d7_token_89 ?_
    refine g_dup hK d7_token_90 rfl ?_
    refine g_getI hK zfin_7 (fa_7_14 kc_292) q_1211 d7_token_91 (fun hf7 => ?_)
    refine g_aload_n hK 0 rfl rfl d7_token_94 ?_
    refine g_getI hK zfin_7 (fa_7_17 kc_292) q_1214 d7_token_95 (fun hf8 => ?_)
    refine g_if_ne hK hf8 (tgt := 113) (by decide) d7_token_98 (fun _ => ?_) (fun _ => ?_)
    · refine g_iconst hK d7_token_113 zki0 ?_
      refine g_goto hK (tgt := 118) (by decide) d7_token_114 ?_
      exact p7_token_118 hcx  0 (zI μ 292 14) μ zc0 hf7
    · refine g_aload_n hK 0 rfl rfl d7_token_101 ?_
      refine g_aload_n hK 0 rfl rfl d7_token_102 ?_
      refine g_getI hK zfin_7 (fa_7_14 kc_292) q_1211 d7_token_103 (fun hf9 => ?_)
      refine g_callVco hK (mk := mkI) (rm := rm7_byteAt) (cb := 0) (sb := 0) (As := [.int (zi (zI μ 292 14))]) (b := 292) (n := 1) (c7_byteAt K.2.1 hK.2.2.2.2.2.2.2.2.1 Z (zI μ 292 14) μ hf9) rfl (ci := 7) rfl (by decide) kc_292 q_1337 q_1339 qs_7_byteAt q_7 q_1340 rfl (by decide +kernel) (by decide) (Nat.le_of_ble_eq_true rfl) (Nat.le_of_ble_eq_true rfl) (Nat.le_of_ble_eq_true rfl) rfl d7_token_106 (fun r7 hr7 hpr7 => ?_)
      refine g_iconst hK d7_token_109 zkim1 ?_
      refine g_icmp_ne hK hpr7 zcm1 (tgt := 117) (by decide) d7_token_110 (fun _ => ?_) (fun _ => ?_)
      · refine g_iconst hK d7_token_117 zki1 ?_
        exact p7_token_118 hcx  1 (zI μ 292 14) μ zc1 hf7
      · refine g_iconst hK d7_token_113 zki0 ?_
        refine g_goto hK (tgt := 118) (by decide) d7_token_114 ?_
        exact p7_token_118 hcx  0 (zI μ 292 14) μ zc0 hf7
  · refine g_aload_n hK 0 rfl rfl d7_token_76 ?_
    refine g_dup hK d7_token_77 rfl ?_
    refine g_getI hK zfin_7 (fa_7_14 kc_292) q_1211 d7_token_78 (fun hf10 => ?_)
    refine g_iconst hK d7_token_81 zki1 ?_
    refine g_iadd hK d7_token_82 (fun v2 hv2 => ?_)
    refine g_putI hK zfin_7 (fa_7_14 kc_292) q_1211 hv2 rfl (tyX7_ok 14 (by decide)) tyX7 tyX7_ok nmX7 d7_token_83 ?_
    refine g_ltM (fun m4 => ?_)
    refine g_goto hK (tgt := 62) (by decide) d7_token_86 ?_
    exact hk62  m4 
set_option maxRecDepth 20000 in
theorem l7_token_62 {K : zK} {Z : zZ} (hcx : zOk K Z b7_token RX7 1 (none) 2 50 0 0 ∧ ∀ x ∈ K.2.2.2.2.2.2.2.2.2.exceptionTable.toList, False) : ∀ (i9 : Nat) (μ : zM), zG K Z (zΩ Z) (zF K Z (zΩ Z) zeM) 0 0 62 [(0, .ref (Z.2.2.1 + 292))] [] μ (zfx (f7_token_62) (fun _ => none) i9 μ) := by
  intro i9
  induction i9 with
  | zero => intro  μ ; exact g_none
  | succ i9 ih => intro  μ ; exact p7_token_62 hcx  (zfx (f7_token_62) (fun _ => none) i9) ih  μ 
set_option maxRecDepth 20000 in
theorem p7_token_0 {K : zK} {Z : zZ} (hcx : zOk K Z b7_token RX7 1 (none) 2 50 0 0 ∧ ∀ x ∈ K.2.2.2.2.2.2.2.2.2.exceptionTable.toList, False) (k0 : zM → Option zM) (hk0 : ∀ (μ : zM), zG K Z (zΩ Z) (zF K Z (zΩ Z) zeM) 0 0 0 [(0, .ref (Z.2.2.1 + 292))] [] μ (k0 μ)) (μ : zM) : zG K Z (zΩ Z) (zF K Z (zΩ Z) zeM) 0 0 0 [(0, .ref (Z.2.2.1 + 292))] [] μ (f7_token_0 k0 μ) := by
  obtain ⟨hK, hex⟩ := id hcx
  unfold f7_token_0
  refine g_aload_n hK 0 rfl rfl d7_token_0 ?_
  refine g_aload_n hK 0 rfl rfl d7_token_1 ?_
  refine g_getI hK zfin_7 (fa_7_14 kc_292) q_1211 d7_token_2 (fun hf1 => ?_)
  refine g_callVco hK (mk := mkI) (rm := rm7_byteAt) (cb := 0) (sb := 0) (As := [.int (zi (zI μ 292 14))]) (b := 292) (n := 1) (c7_byteAt K.2.1 hK.2.2.2.2.2.2.2.2.1 Z (zI μ 292 14) μ hf1) rfl (ci := 7) rfl (by decide) kc_292 q_1337 q_1339 qs_7_byteAt q_7 q_1340 rfl (by decide +kernel) (by decide) (Nat.le_of_ble_eq_true rfl) (Nat.le_of_ble_eq_true rfl) (Nat.le_of_ble_eq_true rfl) rfl d7_token_5 (fun r1 hr1 hpr1 => ?_)
  refine g_bipush hK d7_token_8 zkb32 ?_
  refine g_icmp_eq hK hpr1 zc32 (tgt := 26) (by decide) d7_token_10 (fun _ => ?_) (fun _ => ?_)
  · exact p7_token_26 hcx k0 hk0  μ 
  · refine g_aload_n hK 0 rfl rfl d7_token_13 ?_
    refine g_aload_n hK 0 rfl rfl d7_token_14 ?_
    refine g_getI hK zfin_7 (fa_7_14 kc_292) q_1211 d7_token_15 (fun hf2 => ?_)
    refine g_callVco hK (mk := mkI) (rm := rm7_byteAt) (cb := 0) (sb := 0) (As := [.int (zi (zI μ 292 14))]) (b := 292) (n := 1) (c7_byteAt K.2.1 hK.2.2.2.2.2.2.2.2.1 Z (zI μ 292 14) μ hf2) rfl (ci := 7) rfl (by decide) kc_292 q_1337 q_1339 qs_7_byteAt q_7 q_1340 rfl (by decide +kernel) (by decide) (Nat.le_of_ble_eq_true rfl) (Nat.le_of_ble_eq_true rfl) (Nat.le_of_ble_eq_true rfl) rfl d7_token_18 (fun r2 hr2 hpr2 => ?_)
    refine g_bipush hK d7_token_21 zkb10 ?_
    refine g_icmp_ne hK hpr2 zc10 (tgt := 39) (by decide) d7_token_23 (fun _ => ?_) (fun _ => ?_)
    · refine g_aload_n hK 0 rfl rfl d7_token_39 ?_
      refine g_aload_n hK 0 rfl rfl d7_token_40 ?_
      refine g_getI hK zfin_7 (fa_7_14 kc_292) q_1211 d7_token_41 (fun hf3 => ?_)
      refine g_putI hK zfin_7 (fa_7_15 kc_292) q_1212 hf3 rfl (tyX7_ok 15 (by decide)) tyX7 tyX7_ok nmX7 d7_token_44 ?_
      refine g_ltM (fun m1 => ?_)
      refine g_aload_n hK 0 rfl rfl d7_token_47 ?_
      refine g_aload_n hK 0 rfl rfl d7_token_48 ?_
      refine g_aload_n hK 0 rfl rfl d7_token_49 ?_
      refine g_getI hK zfin_7 (fa_7_14 kc_292) q_1211 d7_token_50 (fun hf4 => ?_)
      refine g_callVco hK (mk := mkI) (rm := rm7_byteAt) (cb := 0) (sb := 0) (As := [.int (zi (zI m1 292 14))]) (b := 292) (n := 1) (c7_byteAt K.2.1 hK.2.2.2.2.2.2.2.2.1 Z (zI m1 292 14) m1 hf4) rfl (ci := 7) rfl (by decide) kc_292 q_1337 q_1339 qs_7_byteAt q_7 q_1340 rfl (by decide +kernel) (by decide) (Nat.le_of_ble_eq_true rfl) (Nat.le_of_ble_eq_true rfl) (Nat.le_of_ble_eq_true rfl) rfl d7_token_53 (fun r3 hr3 hpr3 => ?_)
      refine g_callSco hK (mk := mkZ) (rm := rm7_isLetter) (cb := 0) (sb := 0) (As := [.int (zi r3)]) (n := 1) (c7_isLetter K.2.1 hK.2.2.2.2.2.2.2.2.1 Z r3 m1 hpr3) q_1341 q_1342 q_7 q_1343 rfl (by decide +kernel) (by decide) (Nat.le_of_ble_eq_true rfl) (Nat.le_of_ble_eq_true rfl) (Nat.le_of_ble_eq_true rfl) rfl d7_token_56 (fun r4 hr4 hpr4 => ?_)
      refine g_putZ hK zfin_7 (fa_7_17 kc_292) q_1214 rfl (tyX7_ok 17 (by decide)) tyX7 tyX7_ok nmX7 d7_token_59 ?_
      refine g_ltM (fun m2 => ?_)
      exact l7_token_62 hcx  zFu  m2 
    · exact p7_token_26 hcx k0 hk0  μ 
set_option maxRecDepth 20000 in
theorem l7_token_0 {K : zK} {Z : zZ} (hcx : zOk K Z b7_token RX7 1 (none) 2 50 0 0 ∧ ∀ x ∈ K.2.2.2.2.2.2.2.2.2.exceptionTable.toList, False) : ∀ (i9 : Nat) (μ : zM), zG K Z (zΩ Z) (zF K Z (zΩ Z) zeM) 0 0 0 [(0, .ref (Z.2.2.1 + 292))] [] μ (zfx (f7_token_0) (fun _ => none) i9 μ) := by
  intro i9
  induction i9 with
  | zero => intro  μ ; exact g_none
  | succ i9 ih => intro  μ ; exact p7_token_0 hcx  (zfx (f7_token_0) (fun _ => none) i9) ih  μ 
set_option maxRecDepth 20000 in
theorem c7_token (l : Launch) (hst : l.stackTraces = false) (Z : zZ) (μ : zM) : ∀ x, f7_token μ = some x → zCt l Z (zΩ Z) y7_token (zws (.code y7_token b7_token 1 (none))) rm7_token [.ref (Z.2.2.1 + 292)] μ (zeM x) := by
  intro x h
  refine zCt.of (enc := zeM) h (by decide) hst (Nat.le_of_ble_eq_true rfl) (fun K hK0 hex hl _ => ?_)
  subst hl
  have hcx : zOk K Z b7_token RX7 1 (none) 2 50 0 0 ∧ ∀ x ∈ K.2.2.2.2.2.2.2.2.2.exceptionTable.toList, False := ⟨hK0, hex⟩
  have hK := hcx.1
  show zG K Z (zΩ Z) (zF K Z (zΩ Z) zeM) 0 0 0 [(0, .ref (Z.2.2.1 + 292))] [] μ (f7_token μ)
  unfold f7_token
  exact l7_token_0 hcx  zFu  μ 
set_option maxRecDepth 20000 in
theorem p7_is_31 {K : zK} {Z : zZ} (hcx : zOk K Z b7_is RX7 4 (some .boolean) 6 200 0 0 ∧ ∀ x ∈ K.2.2.2.2.2.2.2.2.2.exceptionTable.toList, False) (a1 : Nat) (μ : zM) (k31 : Int → Int → Option Bool) (hk31 : ∀ (x2 : Int) (x3 : Int) (hx2 : zr x2) (hx3 : zr x3), zG K Z (zΩ Z) (zF K Z (zΩ Z) (zeP mkZ μ)) 0 0 31 [(0, .ref (Z.2.2.1 + 292)), (1, .ref (Z.2.2.2.1 a1)), (2, .int (zi x2)), (3, .int (zi x3))] [] μ (k31 x2 x3)) (x2 : Int) (x3 : Int) (hx2 : zr x2) (hx3 : zr x3) : zG K Z (zΩ Z) (zF K Z (zΩ Z) (zeP mkZ μ)) 0 0 31 [(0, .ref (Z.2.2.1 + 292)), (1, .ref (Z.2.2.2.1 a1)), (2, .int (zi x2)), (3, .int (zi x3))] [] μ (f7_is_31 a1 μ k31 x2 x3) := by
  obtain ⟨hK, hex⟩ := id hcx
  unfold f7_is_31
  refine g_iload_n hK 3 rfl rfl d7_is_31 ?_
  refine g_aload_n hK 1 rfl rfl d7_is_32 ?_
  refine g_slen hK qs_l7_len (Nat.le_of_ble_eq_true rfl) (Nat.le_of_ble_eq_true rfl) (Nat.le_of_ble_eq_true rfl) d7_is_33 (fun _ v3 hv3 => ?_)
  refine g_icmp_ge hK hx3 hv3 (tgt := 74) (by decide) d7_is_36 (fun _ => ?_) (fun _ => ?_)
  · refine g_iload_n hK 2 rfl rfl d7_is_74 ?_
    refine g_gd (fun hb1 => ?_)
    exact g_zret hK hb1 (by simp only [zeP, ze2, zeX, mkZ, zb_dec hb1]) rfl d7_is_75
  · refine g_iload_n hK 2 rfl rfl d7_is_39 ?_
    refine g_if_eq hK hx2 (tgt := 74) (by decide) d7_is_40 (fun _ => ?_) (fun _ => ?_)
    · refine g_iload_n hK 2 rfl rfl d7_is_74 ?_
      refine g_gd (fun hb2 => ?_)
      exact g_zret hK hb2 (by simp only [zeP, ze2, zeX, mkZ, zb_dec hb2]) rfl d7_is_75
    · refine g_aload_n hK 0 rfl rfl d7_is_43 ?_
      refine g_getR hK zfin_7 (fa_7_9 kc_292) q_1206 (r := 313) (by decide +kernel) d7_is_44 ?_
      refine g_aload_n hK 0 rfl rfl d7_is_47 ?_
      refine g_getI hK zfin_7 (fa_7_15 kc_292) q_1212 d7_is_48 (fun hf4 => ?_)
      refine g_iload_n hK 3 rfl rfl d7_is_51 ?_
      refine g_iadd hK d7_is_52 (fun v4 hv4 => ?_)
      refine g_iald hK kc_313 d7_is_53 (fun _ hl1 => ?_)
      refine g_aload_n hK 1 rfl rfl d7_is_54 ?_
      refine g_iload_n hK 3 rfl rfl d7_is_55 ?_
      refine g_schar hK hx3 qs_l7_cha (Nat.le_of_ble_eq_true rfl) (Nat.le_of_ble_eq_true rfl) (Nat.le_of_ble_eq_true rfl) d7_is_56 (fun v5 hv5 => ?_)
      refine g_icmp_ne hK hl1 hv5 (tgt := 66) (by decide) d7_is_59 (fun _ => ?_) (fun _ => ?_)
      · refine g_iconst hK d7_is_66 zki0 ?_
        refine g_istore_n hK (lv2 := [(0, .ref (Z.2.2.1 + 292)), (1, .ref (Z.2.2.2.1 a1)), (2, .int (zi 0)), (3, .int (zi x3))]) [1, 2, 0, 3] rfl rfl (by decide) d7_is_67 ?_
        refine g_iinc hK (lv2 := fun v6 => [(0, .ref (Z.2.2.1 + 292)), (1, .ref (Z.2.2.2.1 a1)), (2, .int (zi 0)), (3, .int (zi v6))]) 3 rfl [1, 2, 3, 0] (fun _ => rfl) (by decide) d7_is_68 (fun v6 hv6 => ?_)
        refine g_goto hK (tgt := 31) (by decide) d7_is_71 ?_
        exact hk31 0 v6  zc0 hv6
      · refine g_iconst hK d7_is_62 zki1 ?_
        refine g_goto hK (tgt := 67) (by decide) d7_is_63 ?_
        refine g_istore_n hK (lv2 := [(0, .ref (Z.2.2.1 + 292)), (1, .ref (Z.2.2.2.1 a1)), (2, .int (zi 1)), (3, .int (zi x3))]) [1, 2, 0, 3] rfl rfl (by decide) d7_is_67 ?_
        refine g_iinc hK (lv2 := fun v7 => [(0, .ref (Z.2.2.1 + 292)), (1, .ref (Z.2.2.2.1 a1)), (2, .int (zi 1)), (3, .int (zi v7))]) 3 rfl [1, 2, 3, 0] (fun _ => rfl) (by decide) d7_is_68 (fun v7 hv7 => ?_)
        refine g_goto hK (tgt := 31) (by decide) d7_is_71 ?_
        exact hk31 1 v7  zc1 hv7
set_option maxRecDepth 20000 in
theorem l7_is_31 {K : zK} {Z : zZ} (hcx : zOk K Z b7_is RX7 4 (some .boolean) 6 200 0 0 ∧ ∀ x ∈ K.2.2.2.2.2.2.2.2.2.exceptionTable.toList, False) (a1 : Nat) (μ : zM) : ∀ (i9 : Nat) (x2 : Int) (x3 : Int) (hx2 : zr x2) (hx3 : zr x3), zG K Z (zΩ Z) (zF K Z (zΩ Z) (zeP mkZ μ)) 0 0 31 [(0, .ref (Z.2.2.1 + 292)), (1, .ref (Z.2.2.2.1 a1)), (2, .int (zi x2)), (3, .int (zi x3))] [] μ (zfx (f7_is_31 a1 μ) (fun _ _ => none) i9 x2 x3) := by
  intro i9
  induction i9 with
  | zero => intro x2 x3 hx2 hx3; exact g_none
  | succ i9 ih => intro x2 x3 hx2 hx3; exact p7_is_31 hcx a1 μ  (zfx (f7_is_31 a1 μ) (fun _ _ => none) i9) ih x2 x3 hx2 hx3
set_option maxRecDepth 20000 in
theorem p7_is_27 {K : zK} {Z : zZ} (hcx : zOk K Z b7_is RX7 4 (some .boolean) 6 200 0 0 ∧ ∀ x ∈ K.2.2.2.2.2.2.2.2.2.exceptionTable.toList, False) (a1 : Nat) (μ : zM) : zG K Z (zΩ Z) (zF K Z (zΩ Z) (zeP mkZ μ)) 0 0 27 [(0, .ref (Z.2.2.1 + 292)), (1, .ref (Z.2.2.2.1 a1))] [] μ (f7_is_27 a1 μ ) := by
  obtain ⟨hK, hex⟩ := id hcx
  unfold f7_is_27
  refine g_iconst hK d7_is_27 zki0 ?_
  refine g_istore_n hK (lv2 := [(0, .ref (Z.2.2.1 + 292)), (1, .ref (Z.2.2.2.1 a1)), (2, .int (zi 0))]) [1, 2, 0] rfl rfl (by decide) d7_is_28 ?_
  refine g_iconst hK d7_is_29 zki0 ?_
  refine g_istore_n hK (lv2 := [(0, .ref (Z.2.2.1 + 292)), (1, .ref (Z.2.2.2.1 a1)), (2, .int (zi 0)), (3, .int (zi 0))]) [1, 2, 3, 0] rfl rfl (by decide) d7_is_30 ?_
  exact l7_is_31 hcx a1 μ  zFu 0 0  zc0 zc0
set_option maxRecDepth 20000 in
theorem c7_is (l : Launch) (hst : l.stackTraces = false) (Z : zZ) (a1 : Nat) (μ : zM) : ∀ x, f7_is a1 μ = some x → zCt l Z (zΩ Z) y7_is (zws (.code y7_is b7_is 4 (some .boolean))) rm7_is [.ref (Z.2.2.1 + 292), .ref (Z.2.2.2.1 a1)] μ (zeP mkZ μ x) := by
  intro x h
  refine zCt.of (enc := (zeP mkZ μ)) h (by decide) hst (Nat.le_of_ble_eq_true rfl) (fun K hK0 hex hl _ => ?_)
  subst hl
  have hcx : zOk K Z b7_is RX7 4 (some .boolean) 6 200 0 0 ∧ ∀ x ∈ K.2.2.2.2.2.2.2.2.2.exceptionTable.toList, False := ⟨hK0, hex⟩
  have hK := hcx.1
  show zG K Z (zΩ Z) (zF K Z (zΩ Z) (zeP mkZ μ)) 0 0 0 [(0, .ref (Z.2.2.1 + 292)), (1, .ref (Z.2.2.2.1 a1))] [] μ (f7_is a1 μ)
  unfold f7_is
  refine g_aload_n hK 0 rfl rfl d7_is_0 ?_
  refine g_getI hK zfin_7 (fa_7_17 kc_292) q_1214 d7_is_1 (fun hf1 => ?_)
  refine g_if_eq hK hf1 (tgt := 27) (by decide) d7_is_4 (fun _ => ?_) (fun _ => ?_)
  · exact p7_is_27 hcx a1 μ    
  · refine g_aload_n hK 0 rfl rfl d7_is_7 ?_
    refine g_getI hK zfin_7 (fa_7_16 kc_292) q_1213 d7_is_8 (fun hf2 => ?_)
    refine g_aload_n hK 0 rfl rfl d7_is_11 ?_
    refine g_getI hK zfin_7 (fa_7_15 kc_292) q_1212 d7_is_12 (fun hf3 => ?_)
    refine g_isub hK d7_is_15 (fun v1 hv1 => ?_)
    refine g_aload_n hK 1 rfl rfl d7_is_16 ?_
    refine g_slen hK qs_l7_len (Nat.le_of_ble_eq_true rfl) (Nat.le_of_ble_eq_true rfl) (Nat.le_of_ble_eq_true rfl) d7_is_17 (fun _ v2 hv2 => ?_)
    refine g_icmp_ne hK hv1 hv2 (tgt := 27) (by decide) d7_is_20 (fun _ => ?_) (fun _ => ?_)
    · exact p7_is_27 hcx a1 μ    
    · refine g_iconst hK d7_is_23 zki1 ?_
      refine g_goto hK (tgt := 28) (by decide) d7_is_24 ?_
      refine g_istore_n hK (lv2 := [(0, .ref (Z.2.2.1 + 292)), (1, .ref (Z.2.2.2.1 a1)), (2, .int (zi 1))]) [1, 2, 0] rfl rfl (by decide) d7_is_28 ?_
      refine g_iconst hK d7_is_29 zki0 ?_
      refine g_istore_n hK (lv2 := [(0, .ref (Z.2.2.1 + 292)), (1, .ref (Z.2.2.2.1 a1)), (2, .int (zi 1)), (3, .int (zi 0))]) [1, 2, 3, 0] rfl rfl (by decide) d7_is_30 ?_
      exact l7_is_31 hcx a1 μ  zFu 1 0  zc1 zc0
set_option maxRecDepth 20000 in
theorem c7_isSign (l : Launch) (hst : l.stackTraces = false) (Z : zZ) (a1 : Int) (μ : zM) (ha1 : zr a1) : ∀ x, f7_isSign a1 μ = some x → zCt l Z (zΩ Z) y7_isSign (zws (.code y7_isSign b7_isSign 2 (some .boolean))) rm7_isSign [.ref (Z.2.2.1 + 292), .int (zi a1)] μ (zeP mkZ μ x) := by
  intro x h
  refine zCt.of (enc := (zeP mkZ μ)) h (by decide) hst (Nat.le_of_ble_eq_true rfl) (fun K hK0 hex hl _ => ?_)
  subst hl
  have hcx : zOk K Z b7_isSign RX7 2 (some .boolean) 1 29 0 0 ∧ ∀ x ∈ K.2.2.2.2.2.2.2.2.2.exceptionTable.toList, False := ⟨hK0, hex⟩
  have hK := hcx.1
  show zG K Z (zΩ Z) (zF K Z (zΩ Z) (zeP mkZ μ)) 0 0 0 [(0, .ref (Z.2.2.1 + 292)), (1, .int (zi a1))] [] μ (f7_isSign a1 μ)
  unfold f7_isSign
  refine g_aload_n hK 0 rfl rfl d7_isSign_0 ?_
  refine g_getI hK zfin_7 (fa_7_17 kc_292) q_1214 d7_isSign_1 (fun hf1 => ?_)
  refine g_if_ne hK hf1 (tgt := 23) (by decide) d7_isSign_4 (fun _ => ?_) (fun _ => ?_)
  · refine g_iconst hK d7_isSign_23 zki0 ?_
    exact g_zret hK (by decide) rfl rfl d7_isSign_24
  · refine g_aload_n hK 0 rfl rfl d7_isSign_7 ?_
    refine g_aload_n hK 0 rfl rfl d7_isSign_8 ?_
    refine g_getI hK zfin_7 (fa_7_15 kc_292) q_1212 d7_isSign_9 (fun hf2 => ?_)
    refine g_callVco hK (mk := mkI) (rm := rm7_byteAt) (cb := 0) (sb := 0) (As := [.int (zi (zI μ 292 15))]) (b := 292) (n := 1) (c7_byteAt K.2.1 hK.2.2.2.2.2.2.2.2.1 Z (zI μ 292 15) μ hf2) rfl (ci := 7) rfl (by decide) kc_292 q_1337 q_1339 qs_7_byteAt q_7 q_1340 rfl (by decide +kernel) (by decide) (Nat.le_of_ble_eq_true rfl) (Nat.le_of_ble_eq_true rfl) (Nat.le_of_ble_eq_true rfl) rfl d7_isSign_12 (fun r1 hr1 hpr1 => ?_)
    refine g_iload_n hK 1 rfl rfl d7_isSign_15 ?_
    refine g_icmp_ne hK hpr1 ha1 (tgt := 23) (by decide) d7_isSign_16 (fun _ => ?_) (fun _ => ?_)
    · refine g_iconst hK d7_isSign_23 zki0 ?_
      exact g_zret hK (by decide) rfl rfl d7_isSign_24
    · refine g_iconst hK d7_isSign_19 zki1 ?_
      refine g_goto hK (tgt := 24) (by decide) d7_isSign_20 ?_
      exact g_zret hK (by decide) rfl rfl d7_isSign_24
set_option maxRecDepth 20000 in
theorem p7_isName_21 {K : zK} {Z : zZ} (hcx : zOk K Z b7_isName RX7 7 (some .boolean) 0 8 0 0 ∧ ∀ x ∈ K.2.2.2.2.2.2.2.2.2.exceptionTable.toList, False) (a1 : Nat) (a2 : Int) (a3 : Int) (a4 : Int) (μ : zM) (ha1 : zkd a1 = 6) (ha2 : zr a2) (ha3 : zr a3) (ha4 : zr a4) (k21 : Int → Int → Option Bool) (hk21 : ∀ (x5 : Int) (x6 : Int) (hx5 : zr x5) (hx6 : zr x6), zG K Z (zΩ Z) (zF K Z (zΩ Z) (zeP mkZ μ)) 0 0 21 [(0, .ref (Z.2.2.1 + 292)), (1, .ref (Z.2.2.1 + a1)), (2, .int (zi a2)), (3, .int (zi a3)), (4, .int (zi a4)), (5, .int (zi x5)), (6, .int (zi x6))] [] μ (k21 x5 x6)) (x5 : Int) (x6 : Int) (hx5 : zr x5) (hx6 : zr x6) : zG K Z (zΩ Z) (zF K Z (zΩ Z) (zeP mkZ μ)) 0 0 21 [(0, .ref (Z.2.2.1 + 292)), (1, .ref (Z.2.2.1 + a1)), (2, .int (zi a2)), (3, .int (zi a3)), (4, .int (zi a4)), (5, .int (zi x5)), (6, .int (zi x6))] [] μ (f7_isName_21 a1 a2 a3 a4 μ k21 x5 x6) := by
  obtain ⟨hK, hex⟩ := id hcx
  unfold f7_isName_21
  refine g_iload hK 6 rfl d7_isName_21 ?_
  refine g_iload hK 4 rfl d7_isName_23 ?_
  refine g_icmp_ge hK hx6 ha4 (tgt := 70) (by decide) d7_isName_25 (fun _ => ?_) (fun _ => ?_)
  · refine g_iload hK 5 rfl d7_isName_70 ?_
    refine g_gd (fun hb1 => ?_)
    exact g_zret hK hb1 (by simp only [zeP, ze2, zeX, mkZ, zb_dec hb1]) rfl d7_isName_72
  · refine g_iload hK 5 rfl d7_isName_28 ?_
    refine g_if_eq hK hx5 (tgt := 70) (by decide) d7_isName_30 (fun _ => ?_) (fun _ => ?_)
    · refine g_iload hK 5 rfl d7_isName_70 ?_
      refine g_gd (fun hb2 => ?_)
      exact g_zret hK hb2 (by simp only [zeP, ze2, zeX, mkZ, zb_dec hb2]) rfl d7_isName_72
    · refine g_aload_n hK 1 rfl rfl d7_isName_33 ?_
      refine g_getRN hK zfin_6 (fa_6_2 ha1) qn_1141 (pt_6_names ha1) d7_isName_34 ?_
      refine g_bipush hK d7_isName_37 zkb8 ?_
      refine g_iload_n hK 2 rfl rfl d7_isName_39 ?_
      refine g_imul hK d7_isName_40 (fun v1 hv1 => ?_)
      refine g_iload hK 6 rfl d7_isName_41 ?_
      refine g_iadd hK d7_isName_43 (fun v2 hv2 => ?_)
      refine g_iald hK (pt_6_names_k ha1) d7_isName_44 (fun _ hl2 => ?_)
      refine g_aload_n hK 0 rfl rfl d7_isName_45 ?_
      refine g_getR hK zfin_7 (fa_7_9 kc_292) q_1206 (r := 313) (by decide +kernel) d7_isName_46 ?_
      refine g_iload_n hK 3 rfl rfl d7_isName_49 ?_
      refine g_iload hK 6 rfl d7_isName_50 ?_
      refine g_iadd hK d7_isName_52 (fun v3 hv3 => ?_)
      refine g_iald hK kc_313 d7_isName_53 (fun _ hl3 => ?_)
      refine g_icmp_ne hK hl2 hl3 (tgt := 61) (by decide) d7_isName_54 (fun _ => ?_) (fun _ => ?_)
      · refine g_iconst hK d7_isName_61 zki0 ?_
        refine g_istore hK (lv2 := [(0, .ref (Z.2.2.1 + 292)), (1, .ref (Z.2.2.1 + a1)), (2, .int (zi a2)), (3, .int (zi a3)), (4, .int (zi a4)), (5, .int (zi 0)), (6, .int (zi x6))]) [1, 2, 3, 4, 5, 0, 6] rfl (by decide) d7_isName_62 ?_
        refine g_iinc hK (lv2 := fun v4 => [(0, .ref (Z.2.2.1 + 292)), (1, .ref (Z.2.2.1 + a1)), (2, .int (zi a2)), (3, .int (zi a3)), (4, .int (zi a4)), (5, .int (zi 0)), (6, .int (zi v4))]) 6 rfl [1, 2, 3, 4, 5, 6, 0] (fun _ => rfl) (by decide) d7_isName_64 (fun v4 hv4 => ?_)
        refine g_goto hK (tgt := 21) (by decide) d7_isName_67 ?_
        exact hk21 0 v4  zc0 hv4
      · refine g_iconst hK d7_isName_57 zki1 ?_
        refine g_goto hK (tgt := 62) (by decide) d7_isName_58 ?_
        refine g_istore hK (lv2 := [(0, .ref (Z.2.2.1 + 292)), (1, .ref (Z.2.2.1 + a1)), (2, .int (zi a2)), (3, .int (zi a3)), (4, .int (zi a4)), (5, .int (zi 1)), (6, .int (zi x6))]) [1, 2, 3, 4, 5, 0, 6] rfl (by decide) d7_isName_62 ?_
        refine g_iinc hK (lv2 := fun v5 => [(0, .ref (Z.2.2.1 + 292)), (1, .ref (Z.2.2.1 + a1)), (2, .int (zi a2)), (3, .int (zi a3)), (4, .int (zi a4)), (5, .int (zi 1)), (6, .int (zi v5))]) 6 rfl [1, 2, 3, 4, 5, 6, 0] (fun _ => rfl) (by decide) d7_isName_64 (fun v5 hv5 => ?_)
        refine g_goto hK (tgt := 21) (by decide) d7_isName_67 ?_
        exact hk21 1 v5  zc1 hv5
set_option maxRecDepth 20000 in
theorem l7_isName_21 {K : zK} {Z : zZ} (hcx : zOk K Z b7_isName RX7 7 (some .boolean) 0 8 0 0 ∧ ∀ x ∈ K.2.2.2.2.2.2.2.2.2.exceptionTable.toList, False) (a1 : Nat) (a2 : Int) (a3 : Int) (a4 : Int) (μ : zM) (ha1 : zkd a1 = 6) (ha2 : zr a2) (ha3 : zr a3) (ha4 : zr a4) : ∀ (i9 : Nat) (x5 : Int) (x6 : Int) (hx5 : zr x5) (hx6 : zr x6), zG K Z (zΩ Z) (zF K Z (zΩ Z) (zeP mkZ μ)) 0 0 21 [(0, .ref (Z.2.2.1 + 292)), (1, .ref (Z.2.2.1 + a1)), (2, .int (zi a2)), (3, .int (zi a3)), (4, .int (zi a4)), (5, .int (zi x5)), (6, .int (zi x6))] [] μ (zfx (f7_isName_21 a1 a2 a3 a4 μ) (fun _ _ => none) i9 x5 x6) := by
  intro i9
  induction i9 with
  | zero => intro x5 x6 hx5 hx6; exact g_none
  | succ i9 ih => intro x5 x6 hx5 hx6; exact p7_isName_21 hcx a1 a2 a3 a4 μ ha1 ha2 ha3 ha4  (zfx (f7_isName_21 a1 a2 a3 a4 μ) (fun _ _ => none) i9) ih x5 x6 hx5 hx6
set_option maxRecDepth 20000 in
theorem c7_isName (l : Launch) (hst : l.stackTraces = false) (Z : zZ) (a1 : Nat) (a2 : Int) (a3 : Int) (a4 : Int) (μ : zM) (ha1 : zkd a1 = 6) (ha2 : zr a2) (ha3 : zr a3) (ha4 : zr a4) : ∀ x, f7_isName a1 a2 a3 a4 μ = some x → zCt l Z (zΩ Z) y7_isName (zws (.code y7_isName b7_isName 7 (some .boolean))) rm7_isName [.ref (Z.2.2.1 + 292), .ref (Z.2.2.1 + a1), .int (zi a2), .int (zi a3), .int (zi a4)] μ (zeP mkZ μ x) := by
  intro x h
  refine zCt.of (enc := (zeP mkZ μ)) h (by decide) hst (Nat.le_of_ble_eq_true rfl) (fun K hK0 hex hl _ => ?_)
  subst hl
  have hcx : zOk K Z b7_isName RX7 7 (some .boolean) 0 8 0 0 ∧ ∀ x ∈ K.2.2.2.2.2.2.2.2.2.exceptionTable.toList, False := ⟨hK0, hex⟩
  have hK := hcx.1
  show zG K Z (zΩ Z) (zF K Z (zΩ Z) (zeP mkZ μ)) 0 0 0 [(0, .ref (Z.2.2.1 + 292)), (1, .ref (Z.2.2.1 + a1)), (2, .int (zi a2)), (3, .int (zi a3)), (4, .int (zi a4))] [] μ (f7_isName a1 a2 a3 a4 μ)
  unfold f7_isName
  refine g_aload_n hK 1 rfl rfl d7_isName_0 ?_
  refine g_getRN hK zfin_6 (fa_6_3 ha1) qn_1143 (pt_6_lettersOf ha1) d7_isName_1 ?_
  refine g_iload_n hK 2 rfl rfl d7_isName_4 ?_
  refine g_iald hK (pt_6_lettersOf_k ha1) d7_isName_5 (fun _ hl1 => ?_)
  refine g_iload hK 4 rfl d7_isName_6 ?_
  refine g_icmp_ne hK hl1 ha4 (tgt := 15) (by decide) d7_isName_8 (fun _ => ?_) (fun _ => ?_)
  · refine g_iconst hK d7_isName_15 zki0 ?_
    refine g_istore hK (lv2 := [(0, .ref (Z.2.2.1 + 292)), (1, .ref (Z.2.2.1 + a1)), (2, .int (zi a2)), (3, .int (zi a3)), (4, .int (zi a4)), (5, .int (zi 0))]) [1, 2, 3, 4, 5, 0] rfl (by decide) d7_isName_16 ?_
    refine g_iconst hK d7_isName_18 zki0 ?_
    refine g_istore hK (lv2 := [(0, .ref (Z.2.2.1 + 292)), (1, .ref (Z.2.2.1 + a1)), (2, .int (zi a2)), (3, .int (zi a3)), (4, .int (zi a4)), (5, .int (zi 0)), (6, .int (zi 0))]) [1, 2, 3, 4, 5, 6, 0] rfl (by decide) d7_isName_19 ?_
    exact l7_isName_21 hcx a1 a2 a3 a4 μ ha1 ha2 ha3 ha4  zFu 0 0  zc0 zc0
  · refine g_iconst hK d7_isName_11 zki1 ?_
    refine g_goto hK (tgt := 16) (by decide) d7_isName_12 ?_
    refine g_istore hK (lv2 := [(0, .ref (Z.2.2.1 + 292)), (1, .ref (Z.2.2.1 + a1)), (2, .int (zi a2)), (3, .int (zi a3)), (4, .int (zi a4)), (5, .int (zi 1))]) [1, 2, 3, 4, 5, 0] rfl (by decide) d7_isName_16 ?_
    refine g_iconst hK d7_isName_18 zki0 ?_
    refine g_istore hK (lv2 := [(0, .ref (Z.2.2.1 + 292)), (1, .ref (Z.2.2.1 + a1)), (2, .int (zi a2)), (3, .int (zi a3)), (4, .int (zi a4)), (5, .int (zi 1)), (6, .int (zi 0))]) [1, 2, 3, 4, 5, 6, 0] rfl (by decide) d7_isName_19 ?_
    exact l7_isName_21 hcx a1 a2 a3 a4 μ ha1 ha2 ha3 ha4  zFu 1 0  zc1 zc0
set_option maxRecDepth 20000 in
theorem p7_readName_27 {K : zK} {Z : zZ} (hcx : zOk K Z b7_readName RX7 3 (some .boolean) 3 70 0 0 ∧ ∀ x ∈ K.2.2.2.2.2.2.2.2.2.exceptionTable.toList, False) (μ : zM) : zG K Z (zΩ Z) (zF K Z (zΩ Z) (ze2 mkZ)) 0 0 27 [(0, .ref (Z.2.2.1 + 292))] [] μ (f7_readName_27 μ) := by
  obtain ⟨hK, hex⟩ := id hcx
  unfold f7_readName_27
  refine g_aload_n hK 0 rfl rfl d7_readName_27 ?_
  refine g_iconst hK d7_readName_28 zki1 ?_
  refine g_aload_n hK 0 rfl rfl d7_readName_29 ?_
  refine g_getI hK zfin_7 (fa_7_15 kc_292) q_1212 d7_readName_30 (fun hf4 => ?_)
  refine g_callVcl hK (mk := mkZ) (rm := rm7_fails) (cb := 0) (sb := 0) (As := [.int (zi 1), .int (zi (zI μ 292 15))]) (b := 292) (n := 2) (c7_fails K.2.1 hK.2.2.2.2.2.2.2.2.1 Z 1 (zI μ 292 15) μ zc1 hf4) rfl (ci := 7) rfl (by decide) kc_292 q_1358 q_1360 qs_7_fails q_7 q_1361 rfl (by decide +kernel) (by decide) (Nat.le_of_ble_eq_true rfl) (Nat.le_of_ble_eq_true rfl) (Nat.le_of_ble_eq_true rfl) rfl d7_readName_33 (fun r1 m2 hr1 hpr1 => ?_)
  exact g_zret hK (zb01 _) rfl rfl d7_readName_36
set_option maxRecDepth 20000 in
theorem p7_readName_101 {K : zK} {Z : zZ} (hcx : zOk K Z b7_readName RX7 3 (some .boolean) 3 70 0 0 ∧ ∀ x ∈ K.2.2.2.2.2.2.2.2.2.exceptionTable.toList, False) (k101 : Int → Int → zM → Option (Bool × zM)) (hk101 : ∀ (x1 : Int) (x2 : Int) (μ : zM) (hx1 : zr x1) (hx2 : zr x2), zG K Z (zΩ Z) (zF K Z (zΩ Z) (ze2 mkZ)) 0 0 101 [(0, .ref (Z.2.2.1 + 292)), (1, .int (zi x1)), (2, .int (zi x2))] [] μ (k101 x1 x2 μ)) (x1 : Int) (x2 : Int) (μ : zM) (hx1 : zr x1) (hx2 : zr x2) : zG K Z (zΩ Z) (zF K Z (zΩ Z) (ze2 mkZ)) 0 0 101 [(0, .ref (Z.2.2.1 + 292)), (1, .int (zi x1)), (2, .int (zi x2))] [] μ (f7_readName_101 k101 x1 x2 μ) := by
  obtain ⟨hK, hex⟩ := id hcx
  unfold f7_readName_101
  refine g_iload_n hK 2 rfl rfl d7_readName_101 ?_
  refine g_iload_n hK 1 rfl rfl d7_readName_102 ?_
  refine g_icmp_ge hK hx2 hx1 (tgt := 143) (by decide) d7_readName_103 (fun _ => ?_) (fun _ => ?_)
  · refine g_iconst hK d7_readName_143 zki1 ?_
    exact g_zret hK (by decide) rfl rfl d7_readName_144
  · refine g_aload_n hK 0 rfl rfl d7_readName_106 ?_
    refine g_getM hK zfin_7 (fa_7_13 kc_292) q_1210 (w := 6) (by decide) d7_readName_107 (fun hm5 => ?_)
    refine g_getRN hK zfin_6 (fa_6_2 hm5) qn_1141 (pt_6_names hm5) d7_readName_110 ?_
    refine g_bipush hK d7_readName_113 zkb8 ?_
    refine g_aload_n hK 0 rfl rfl d7_readName_115 ?_
    refine g_getM hK zfin_7 (fa_7_13 kc_292) q_1210 (w := 6) (by decide) d7_readName_116 (fun hm6 => ?_)
    refine g_getIN hK zfin_6 (fa_6_0 hm6) qn_1138 d7_readName_119 (fun hf9 => ?_)
    refine g_imul hK d7_readName_122 (fun v3 hv3 => ?_)
    refine g_iload_n hK 2 rfl rfl d7_readName_123 ?_
    refine g_iadd hK d7_readName_124 (fun v4 hv4 => ?_)
    refine g_aload_n hK 0 rfl rfl d7_readName_125 ?_
    refine g_getR hK zfin_7 (fa_7_9 kc_292) q_1206 (r := 313) (by decide +kernel) d7_readName_126 ?_
    refine g_aload_n hK 0 rfl rfl d7_readName_129 ?_
    refine g_getI hK zfin_7 (fa_7_15 kc_292) q_1212 d7_readName_130 (fun hf10 => ?_)
    refine g_iload_n hK 2 rfl rfl d7_readName_133 ?_
    refine g_iadd hK d7_readName_134 (fun v5 hv5 => ?_)
    refine g_iald hK kc_313 d7_readName_135 (fun _ hl1 => ?_)
    refine g_iast hK hl1 (pt_6_names_k hm5) d7_readName_136 (fun _ => ?_)
    refine g_ltM (fun m5 => ?_)
    refine g_iinc hK (lv2 := fun v6 => [(0, .ref (Z.2.2.1 + 292)), (1, .int (zi x1)), (2, .int (zi v6))]) 2 rfl [1, 2, 0] (fun _ => rfl) (by decide) d7_readName_137 (fun v6 hv6 => ?_)
    refine g_goto hK (tgt := 101) (by decide) d7_readName_140 ?_
    exact hk101 x1 v6 m5 hx1 hv6
set_option maxRecDepth 20000 in
theorem l7_readName_101 {K : zK} {Z : zZ} (hcx : zOk K Z b7_readName RX7 3 (some .boolean) 3 70 0 0 ∧ ∀ x ∈ K.2.2.2.2.2.2.2.2.2.exceptionTable.toList, False) : ∀ (i9 : Nat) (x1 : Int) (x2 : Int) (μ : zM) (hx1 : zr x1) (hx2 : zr x2), zG K Z (zΩ Z) (zF K Z (zΩ Z) (ze2 mkZ)) 0 0 101 [(0, .ref (Z.2.2.1 + 292)), (1, .int (zi x1)), (2, .int (zi x2))] [] μ (zfx (f7_readName_101) (fun _ _ _ => none) i9 x1 x2 μ) := by
  intro i9
  induction i9 with
  | zero => intro x1 x2 μ hx1 hx2; exact g_none
  | succ i9 ih => intro x1 x2 μ hx1 hx2; exact p7_readName_101 hcx  (zfx (f7_readName_101) (fun _ _ _ => none) i9) ih x1 x2 μ hx1 hx2
set_option maxRecDepth 20000 in
theorem p7_readName_39 {K : zK} {Z : zZ} (hcx : zOk K Z b7_readName RX7 3 (some .boolean) 3 70 0 0 ∧ ∀ x ∈ K.2.2.2.2.2.2.2.2.2.exceptionTable.toList, False) (k39 : Int → Int → zM → Option (Bool × zM)) (hk39 : ∀ (x1 : Int) (x2 : Int) (μ : zM) (hx1 : zr x1) (hx2 : zr x2), zG K Z (zΩ Z) (zF K Z (zΩ Z) (ze2 mkZ)) 0 0 39 [(0, .ref (Z.2.2.1 + 292)), (1, .int (zi x1)), (2, .int (zi x2))] [] μ (k39 x1 x2 μ)) (x1 : Int) (x2 : Int) (μ : zM) (hx1 : zr x1) (hx2 : zr x2) : zG K Z (zΩ Z) (zF K Z (zΩ Z) (ze2 mkZ)) 0 0 39 [(0, .ref (Z.2.2.1 + 292)), (1, .int (zi x1)), (2, .int (zi x2))] [] μ (f7_readName_39 k39 x1 x2 μ) := by
  obtain ⟨hK, hex⟩ := id hcx
  unfold f7_readName_39
  refine g_iload_n hK 2 rfl rfl d7_readName_39 ?_
  refine g_aload_n hK 0 rfl rfl d7_readName_40 ?_
  refine g_getM hK zfin_7 (fa_7_13 kc_292) q_1210 (w := 6) (by decide) d7_readName_41 (fun hm1 => ?_)
  refine g_getIN hK zfin_6 (fa_6_0 hm1) qn_1138 d7_readName_44 (fun hf5 => ?_)
  refine g_icmp_ge hK hx2 hf5 (tgt := 83) (by decide) d7_readName_47 (fun _ => ?_) (fun _ => ?_)
  · refine g_aload_n hK 0 rfl rfl d7_readName_83 ?_
    refine g_getM hK zfin_7 (fa_7_13 kc_292) q_1210 (w := 6) (by decide) d7_readName_84 (fun hm2 => ?_)
    refine g_getRN hK zfin_6 (fa_6_3 hm2) qn_1143 (pt_6_lettersOf hm2) d7_readName_87 ?_
    refine g_aload_n hK 0 rfl rfl d7_readName_90 ?_
    refine g_getM hK zfin_7 (fa_7_13 kc_292) q_1210 (w := 6) (by decide) d7_readName_91 (fun hm3 => ?_)
    refine g_getIN hK zfin_6 (fa_6_0 hm3) qn_1138 d7_readName_94 (fun hf6 => ?_)
    refine g_iload_n hK 1 rfl rfl d7_readName_97 ?_
    refine g_iast hK hx1 (pt_6_lettersOf_k hm2) d7_readName_98 (fun _ => ?_)
    refine g_ltM (fun m3 => ?_)
    refine g_iconst hK d7_readName_99 zki0 ?_
    refine g_istore_n hK (lv2 := [(0, .ref (Z.2.2.1 + 292)), (1, .int (zi x1)), (2, .int (zi 0))]) [1, 2, 0] rfl rfl (by decide) d7_readName_100 ?_
    exact l7_readName_101 hcx  zFu x1 0 m3 hx1 zc0
  · refine g_aload_n hK 0 rfl rfl d7_readName_50 ?_
    refine g_aload_n hK 0 rfl rfl d7_readName_51 ?_
    refine g_getM hK zfin_7 (fa_7_13 kc_292) q_1210 (w := 6) (by decide) d7_readName_52 (fun hm4 => ?_)
    refine g_iload_n hK 2 rfl rfl d7_readName_55 ?_
    refine g_aload_n hK 0 rfl rfl d7_readName_56 ?_
    refine g_getI hK zfin_7 (fa_7_15 kc_292) q_1212 d7_readName_57 (fun hf7 => ?_)
    refine g_iload_n hK 1 rfl rfl d7_readName_60 ?_
    refine g_callVco hK (mk := mkZ) (rm := rm7_isName) (cb := 0) (sb := 0) (As := [.ref (Z.2.2.1 + (zR μ 292 13)), .int (zi x2), .int (zi (zI μ 292 15)), .int (zi x1)]) (b := 292) (n := 4) (c7_isName K.2.1 hK.2.2.2.2.2.2.2.2.1 Z (zR μ 292 13) x2 (zI μ 292 15) x1 μ hm4 hx2 hf7 hx1) rfl (ci := 7) rfl (by decide) kc_292 q_1366 q_1368 qs_7_isName q_7 q_1369 rfl (by decide +kernel) (by decide) (Nat.le_of_ble_eq_true rfl) (Nat.le_of_ble_eq_true rfl) (Nat.le_of_ble_eq_true rfl) rfl d7_readName_61 (fun r2 hr2 hpr2 => ?_)
    refine g_if_eq hK (zb_r r2) (tgt := 77) (by decide) d7_readName_64 (fun _ => ?_) (fun _ => ?_)
    · refine g_iinc hK (lv2 := fun v2 => [(0, .ref (Z.2.2.1 + 292)), (1, .int (zi x1)), (2, .int (zi v2))]) 2 rfl [1, 2, 0] (fun _ => rfl) (by decide) d7_readName_77 (fun v2 hv2 => ?_)
      refine g_goto hK (tgt := 39) (by decide) d7_readName_80 ?_
      exact hk39 x1 v2 μ hx1 hv2
    · refine g_aload_n hK 0 rfl rfl d7_readName_67 ?_
      refine g_iconst hK d7_readName_68 zki3 ?_
      refine g_aload_n hK 0 rfl rfl d7_readName_69 ?_
      refine g_getI hK zfin_7 (fa_7_15 kc_292) q_1212 d7_readName_70 (fun hf8 => ?_)
      refine g_callVcl hK (mk := mkZ) (rm := rm7_fails) (cb := 0) (sb := 0) (As := [.int (zi 3), .int (zi (zI μ 292 15))]) (b := 292) (n := 2) (c7_fails K.2.1 hK.2.2.2.2.2.2.2.2.1 Z 3 (zI μ 292 15) μ zc3 hf8) rfl (ci := 7) rfl (by decide) kc_292 q_1358 q_1360 qs_7_fails q_7 q_1361 rfl (by decide +kernel) (by decide) (Nat.le_of_ble_eq_true rfl) (Nat.le_of_ble_eq_true rfl) (Nat.le_of_ble_eq_true rfl) rfl d7_readName_73 (fun r3 m4 hr3 hpr3 => ?_)
      exact g_zret hK (zb01 _) rfl rfl d7_readName_76
