set_option maxRecDepth 20000 in
theorem p2_clear_43 {K : zK} {Z : zZ} (hcx : zOk K Z b2_clear RX2 3 (none) 0 8 0 0 ∧ ∀ x ∈ K.2.2.2.2.2.2.2.2.2.exceptionTable.toList, False) (t : Nat) (a1 : Int) (ht : zkd t = 2) (ha1 : zr a1) (k43 : Int → zM → Option zM) (hk43 : ∀ (x2 : Int) (μ : zM) (hx2 : zr x2), zG K Z (zΩ Z) (zF K Z (zΩ Z) zeM) 0 0 43 [(0, .ref (Z.2.2.1 + t)), (2, .int (zi x2))] [] μ (k43 x2 μ)) (x2 : Int) (μ : zM) (hx2 : zr x2) : zG K Z (zΩ Z) (zF K Z (zΩ Z) zeM) 0 0 43 [(0, .ref (Z.2.2.1 + t)), (2, .int (zi x2))] [] μ (f2_clear_43 t a1 k43 x2 μ) := by
  obtain ⟨hK, hex⟩ := id hcx
  unfold f2_clear_43
  refine g_iload_n hK 1 rfl rfl d2_clear_43 ?_
  refine g_bipush hK d2_clear_44 zkb60 ?_
  refine g_icmp_gt hK hx2 zc60 (tgt := 62) (by decide) d2_clear_46 (fun _ => ?_) (fun _ => ?_)
  · exact g_vret hK rfl rfl d2_clear_62
  · refine g_aload_n hK 0 rfl rfl d2_clear_49 ?_
    refine g_getR hK zfin_2 (fa_2_10 ht) q_78 (pt_2_literalsOfParts ht) d2_clear_50 ?_
    refine g_iload_n hK 1 rfl rfl d2_clear_53 ?_
    refine g_iconst hK d2_clear_54 zki0 ?_
    refine g_iast hK zc0 (pt_2_literalsOfParts_k ht) d2_clear_55 (fun _ => ?_)
    refine g_ltM (fun m6 => ?_)
    refine g_iinc hK (lv2 := fun v2 => [(0, .ref (Z.2.2.1 + t)), (2, .int (zi v2))]) 1 rfl [1, 0] (fun _ => rfl) (by decide) d2_clear_56 (fun v2 hv2 => ?_)
    refine g_goto hK (tgt := 43) (by decide) d2_clear_59 ?_
    exact hk43 v2 m6 hv2
set_option maxRecDepth 20000 in
theorem l2_clear_43 {K : zK} {Z : zZ} (hcx : zOk K Z b2_clear RX2 3 (none) 0 8 0 0 ∧ ∀ x ∈ K.2.2.2.2.2.2.2.2.2.exceptionTable.toList, False) (t : Nat) (a1 : Int) (ht : zkd t = 2) (ha1 : zr a1) : ∀ (i9 : Nat) (x2 : Int) (μ : zM) (hx2 : zr x2), zG K Z (zΩ Z) (zF K Z (zΩ Z) zeM) 0 0 43 [(0, .ref (Z.2.2.1 + t)), (2, .int (zi x2))] [] μ (zfx (f2_clear_43 t a1) (fun _ _ => none) i9 x2 μ) := by
  intro i9
  induction i9 with
  | zero => intro x2 μ hx2; exact g_none
  | succ i9 ih => intro x2 μ hx2; exact p2_clear_43 hcx t a1 ht ha1  (zfx (f2_clear_43 t a1) (fun _ _ => none) i9) ih x2 μ hx2
set_option maxRecDepth 20000 in
theorem p2_clear_22 {K : zK} {Z : zZ} (hcx : zOk K Z b2_clear RX2 3 (none) 0 8 0 0 ∧ ∀ x ∈ K.2.2.2.2.2.2.2.2.2.exceptionTable.toList, False) (t : Nat) (a1 : Int) (ht : zkd t = 2) (ha1 : zr a1) (k22 : Int → zM → Option zM) (hk22 : ∀ (x2 : Int) (μ : zM) (hx2 : zr x2), zG K Z (zΩ Z) (zF K Z (zΩ Z) zeM) 0 0 22 [(0, .ref (Z.2.2.1 + t)), (2, .int (zi x2))] [] μ (k22 x2 μ)) (x2 : Int) (μ : zM) (hx2 : zr x2) : zG K Z (zΩ Z) (zF K Z (zΩ Z) zeM) 0 0 22 [(0, .ref (Z.2.2.1 + t)), (2, .int (zi x2))] [] μ (f2_clear_22 t a1 k22 x2 μ) := by
  obtain ⟨hK, hex⟩ := id hcx
  unfold f2_clear_22
  refine g_iload_n hK 1 rfl rfl d2_clear_22 ?_
  refine g_bipush hK d2_clear_23 zkb10 ?_
  refine g_icmp_ge hK hx2 zc10 (tgt := 41) (by decide) d2_clear_25 (fun _ => ?_) (fun _ => ?_)
  · refine g_iconst hK d2_clear_41 zki0 ?_
    refine g_istore_n hK (lv2 := [(0, .ref (Z.2.2.1 + t)), (2, .int (zi 0))]) [1, 0] rfl rfl (by decide) d2_clear_42 ?_
    exact l2_clear_43 hcx t a1 ht ha1  zFu 0 μ zc0
  · refine g_aload_n hK 0 rfl rfl d2_clear_28 ?_
    refine g_getR hK zfin_2 (fa_2_9 ht) q_75 (pt_2_dependsOn ht) d2_clear_29 ?_
    refine g_iload_n hK 1 rfl rfl d2_clear_32 ?_
    refine g_iconst hK d2_clear_33 zki0 ?_
    refine g_iast hK zc0 (pt_2_dependsOn_k ht) d2_clear_34 (fun _ => ?_)
    refine g_ltM (fun m5 => ?_)
    refine g_iinc hK (lv2 := fun v1 => [(0, .ref (Z.2.2.1 + t)), (2, .int (zi v1))]) 1 rfl [1, 0] (fun _ => rfl) (by decide) d2_clear_35 (fun v1 hv1 => ?_)
    refine g_goto hK (tgt := 22) (by decide) d2_clear_38 ?_
    exact hk22 v1 m5 hv1
set_option maxRecDepth 20000 in
theorem l2_clear_22 {K : zK} {Z : zZ} (hcx : zOk K Z b2_clear RX2 3 (none) 0 8 0 0 ∧ ∀ x ∈ K.2.2.2.2.2.2.2.2.2.exceptionTable.toList, False) (t : Nat) (a1 : Int) (ht : zkd t = 2) (ha1 : zr a1) : ∀ (i9 : Nat) (x2 : Int) (μ : zM) (hx2 : zr x2), zG K Z (zΩ Z) (zF K Z (zΩ Z) zeM) 0 0 22 [(0, .ref (Z.2.2.1 + t)), (2, .int (zi x2))] [] μ (zfx (f2_clear_22 t a1) (fun _ _ => none) i9 x2 μ) := by
  intro i9
  induction i9 with
  | zero => intro x2 μ hx2; exact g_none
  | succ i9 ih => intro x2 μ hx2; exact p2_clear_22 hcx t a1 ht ha1  (zfx (f2_clear_22 t a1) (fun _ _ => none) i9) ih x2 μ hx2
set_option maxRecDepth 20000 in
theorem c2_clear (l : Launch) (hst : l.stackTraces = false) (Z : zZ) (t : Nat) (a1 : Int) (μ : zM) (ht : zkd t = 2) (ha1 : zr a1) : ∀ x, f2_clear t a1 μ = some x → zCt l Z (zΩ Z) y2_clear (zws (.code y2_clear b2_clear 3 (none))) rm2_clear [.ref (Z.2.2.1 + t), .int (zi a1)] μ (zeM x) := by
  intro x h
  refine zCt.of (enc := zeM) h (by decide) hst (Nat.le_of_ble_eq_true rfl) (fun K hK0 hex hl _ => ?_)
  subst hl
  have hcx : zOk K Z b2_clear RX2 3 (none) 0 8 0 0 ∧ ∀ x ∈ K.2.2.2.2.2.2.2.2.2.exceptionTable.toList, False := ⟨hK0, hex⟩
  have hK := hcx.1
  show zG K Z (zΩ Z) (zF K Z (zΩ Z) zeM) 0 0 0 [(0, .ref (Z.2.2.1 + t)), (1, .int (zi a1))] [] μ (f2_clear t a1 μ)
  unfold f2_clear
  refine g_aload_n hK 0 rfl rfl d2_clear_0 ?_
  refine g_iconst hK d2_clear_1 zki0 ?_
  refine g_putI hK zfin_2 (fa_2_2 ht) q_50 zc0 rfl (tyX2_ok 2 (by decide)) tyX2 tyX2_ok nmX2 d2_clear_2 ?_
  refine g_ltM (fun m1 => ?_)
  refine g_aload_n hK 0 rfl rfl d2_clear_5 ?_
  refine g_iconst hK d2_clear_6 zki0 ?_
  refine g_putI hK zfin_2 (fa_2_3 ht) q_54 zc0 rfl (tyX2_ok 3 (by decide)) tyX2 tyX2_ok nmX2 d2_clear_7 ?_
  refine g_ltM (fun m2 => ?_)
  refine g_aload_n hK 0 rfl rfl d2_clear_10 ?_
  refine g_iload_n hK 1 rfl rfl d2_clear_11 ?_
  refine g_putI hK zfin_2 (fa_2_15 ht) q_88 ha1 rfl (tyX2_ok 15 (by decide)) tyX2 tyX2_ok nmX2 d2_clear_12 ?_
  refine g_ltM (fun m3 => ?_)
  refine g_aload_n hK 0 rfl rfl d2_clear_15 ?_
  refine g_iload_n hK 1 rfl rfl d2_clear_16 ?_
  refine g_putI hK zfin_2 (fa_2_16 ht) q_89 ha1 rfl (tyX2_ok 16 (by decide)) tyX2 tyX2_ok nmX2 d2_clear_17 ?_
  refine g_ltM (fun m4 => ?_)
  refine g_iconst hK d2_clear_20 zki0 ?_
  refine g_istore_n hK (lv2 := [(0, .ref (Z.2.2.1 + t)), (1, .int (zi a1)), (2, .int (zi 0))]) [1, 2, 0] rfl rfl (by decide) d2_clear_21 ?_
  refine g_lv (lv2 := [(0, .ref (Z.2.2.1 + t)), (2, .int (zi 0))]) [0, 2] rfl ?_
  exact l2_clear_22 hcx t a1 ht ha1  zFu 0 m4 zc0
set_option maxRecDepth 20000 in
theorem p2_setName_13 {K : zK} {Z : zZ} (hcx : zOk K Z b2_setName RX2 5 (none) 1 23 0 0 ∧ ∀ x ∈ K.2.2.2.2.2.2.2.2.2.exceptionTable.toList, False) (t : Nat) (a1 : Nat) (a2 : Int) (a3 : Int) (ht : zkd t = 2) (ha1 : zkd a1 = 100) (ha2 : zr a2) (ha3 : zr a3) (k13 : Int → zM → Option zM) (hk13 : ∀ (x4 : Int) (μ : zM) (hx4 : zr x4), zG K Z (zΩ Z) (zF K Z (zΩ Z) zeM) 0 0 13 [(0, .ref (Z.2.2.1 + t)), (1, .ref (Z.2.2.1 + a1)), (2, .int (zi a2)), (4, .int (zi x4))] [] μ (k13 x4 μ)) (x4 : Int) (μ : zM) (hx4 : zr x4) : zG K Z (zΩ Z) (zF K Z (zΩ Z) zeM) 0 0 13 [(0, .ref (Z.2.2.1 + t)), (1, .ref (Z.2.2.1 + a1)), (2, .int (zi a2)), (4, .int (zi x4))] [] μ (f2_setName_13 t a1 a2 a3 k13 x4 μ) := by
  obtain ⟨hK, hex⟩ := id hcx
  unfold f2_setName_13
  refine g_iload hK 3 rfl d2_setName_13 ?_
  refine g_aload_n hK 0 rfl rfl d2_setName_15 ?_
  refine g_getI hK zfin_2 (fa_2_1 ht) q_48 d2_setName_16 (fun hf1 => ?_)
  refine g_icmp_ge hK hx4 hf1 (tgt := 41) (by decide) d2_setName_19 (fun _ => ?_) (fun _ => ?_)
  · exact g_vret hK rfl rfl d2_setName_41
  · refine g_aload_n hK 0 rfl rfl d2_setName_22 ?_
    refine g_getR hK zfin_2 (fa_2_0 ht) q_46 (pt_2_name ht) d2_setName_23 ?_
    refine g_iload hK 3 rfl d2_setName_26 ?_
    refine g_aload_n hK 1 rfl rfl d2_setName_28 ?_
    refine g_iload_n hK 2 rfl rfl d2_setName_29 ?_
    refine g_iload hK 3 rfl d2_setName_30 ?_
    refine g_iadd hK d2_setName_32 (fun v2 hv2 => ?_)
    refine g_iald hK ha1 d2_setName_33 (fun _ hl1 => ?_)
    refine g_iast hK hl1 (pt_2_name_k ht) d2_setName_34 (fun _ => ?_)
    refine g_ltM (fun m2 => ?_)
    refine g_iinc hK (lv2 := fun v3 => [(0, .ref (Z.2.2.1 + t)), (1, .ref (Z.2.2.1 + a1)), (2, .int (zi a2)), (4, .int (zi v3))]) 3 rfl [1, 2, 3, 0] (fun _ => rfl) (by decide) d2_setName_35 (fun v3 hv3 => ?_)
    refine g_goto hK (tgt := 13) (by decide) d2_setName_38 ?_
    exact hk13 v3 m2 hv3
set_option maxRecDepth 20000 in
theorem l2_setName_13 {K : zK} {Z : zZ} (hcx : zOk K Z b2_setName RX2 5 (none) 1 23 0 0 ∧ ∀ x ∈ K.2.2.2.2.2.2.2.2.2.exceptionTable.toList, False) (t : Nat) (a1 : Nat) (a2 : Int) (a3 : Int) (ht : zkd t = 2) (ha1 : zkd a1 = 100) (ha2 : zr a2) (ha3 : zr a3) : ∀ (i9 : Nat) (x4 : Int) (μ : zM) (hx4 : zr x4), zG K Z (zΩ Z) (zF K Z (zΩ Z) zeM) 0 0 13 [(0, .ref (Z.2.2.1 + t)), (1, .ref (Z.2.2.1 + a1)), (2, .int (zi a2)), (4, .int (zi x4))] [] μ (zfx (f2_setName_13 t a1 a2 a3) (fun _ _ => none) i9 x4 μ) := by
  intro i9
  induction i9 with
  | zero => intro x4 μ hx4; exact g_none
  | succ i9 ih => intro x4 μ hx4; exact p2_setName_13 hcx t a1 a2 a3 ht ha1 ha2 ha3  (zfx (f2_setName_13 t a1 a2 a3) (fun _ _ => none) i9) ih x4 μ hx4
set_option maxRecDepth 20000 in
theorem c2_setName (l : Launch) (hst : l.stackTraces = false) (Z : zZ) (t : Nat) (a1 : Nat) (a2 : Int) (a3 : Int) (μ : zM) (ht : zkd t = 2) (ha1 : zkd a1 = 100) (ha2 : zr a2) (ha3 : zr a3) : ∀ x, f2_setName t a1 a2 a3 μ = some x → zCt l Z (zΩ Z) y2_setName (zws (.code y2_setName b2_setName 5 (none))) rm2_setName [.ref (Z.2.2.1 + t), .ref (Z.2.2.1 + a1), .int (zi a2), .int (zi a3)] μ (zeM x) := by
  intro x h
  refine zCt.of (enc := zeM) h (by decide) hst (Nat.le_of_ble_eq_true rfl) (fun K hK0 hex hl _ => ?_)
  subst hl
  have hcx : zOk K Z b2_setName RX2 5 (none) 1 23 0 0 ∧ ∀ x ∈ K.2.2.2.2.2.2.2.2.2.exceptionTable.toList, False := ⟨hK0, hex⟩
  have hK := hcx.1
  show zG K Z (zΩ Z) (zF K Z (zΩ Z) zeM) 0 0 0 [(0, .ref (Z.2.2.1 + t)), (1, .ref (Z.2.2.1 + a1)), (2, .int (zi a2)), (3, .int (zi a3))] [] μ (f2_setName t a1 a2 a3 μ)
  unfold f2_setName
  refine g_aload_n hK 0 rfl rfl d2_setName_0 ?_
  refine g_iload_n hK 3 rfl rfl d2_setName_1 ?_
  refine g_bipush hK d2_setName_2 zkb8 ?_
  refine g_mmin hK ha3 zc8 q_420 q_333 q_13 q_334 (by decide) (Nat.le_of_ble_eq_true rfl) d2_setName_4 (fun v1 hv1 => ?_)
  refine g_putI hK zfin_2 (fa_2_1 ht) q_48 hv1 rfl (tyX2_ok 1 (by decide)) tyX2 tyX2_ok nmX2 d2_setName_7 ?_
  refine g_ltM (fun m1 => ?_)
  refine g_iconst hK d2_setName_10 zki0 ?_
  refine g_istore hK (lv2 := [(0, .ref (Z.2.2.1 + t)), (1, .ref (Z.2.2.1 + a1)), (2, .int (zi a2)), (3, .int (zi a3)), (4, .int (zi 0))]) [1, 2, 3, 4, 0] rfl (by decide) d2_setName_11 ?_
  refine g_lv (lv2 := [(0, .ref (Z.2.2.1 + t)), (1, .ref (Z.2.2.1 + a1)), (2, .int (zi a2)), (4, .int (zi 0))]) [0, 1, 2, 4] rfl ?_
  exact l2_setName_13 hcx t a1 a2 a3 ht ha1 ha2 ha3  zFu 0 m1 zc0
set_option maxRecDepth 20000 in
theorem p2_isNamed_13 {K : zK} {Z : zZ} (hcx : zOk K Z b2_isNamed RX2 5 (some .boolean) 0 8 0 0 ∧ ∀ x ∈ K.2.2.2.2.2.2.2.2.2.exceptionTable.toList, False) (t : Nat) (a1 : Nat) (a2 : Int) (a3 : Int) (μ : zM) (ht : zkd t = 2) (ha1 : zkd a1 = 100) (ha2 : zr a2) (ha3 : zr a3) (k13 : Int → Option Bool) (hk13 : ∀ (x4 : Int) (hx4 : zr x4), zG K Z (zΩ Z) (zF K Z (zΩ Z) (zeP mkZ μ)) 0 0 13 [(0, .ref (Z.2.2.1 + t)), (1, .ref (Z.2.2.1 + a1)), (2, .int (zi a2)), (4, .int (zi x4))] [] μ (k13 x4)) (x4 : Int) (hx4 : zr x4) : zG K Z (zΩ Z) (zF K Z (zΩ Z) (zeP mkZ μ)) 0 0 13 [(0, .ref (Z.2.2.1 + t)), (1, .ref (Z.2.2.1 + a1)), (2, .int (zi a2)), (4, .int (zi x4))] [] μ (f2_isNamed_13 t a1 a2 a3 μ k13 x4) := by
  obtain ⟨hK, hex⟩ := id hcx
  unfold f2_isNamed_13
  refine g_iload hK 3 rfl d2_isNamed_13 ?_
  refine g_aload_n hK 0 rfl rfl d2_isNamed_15 ?_
  refine g_getI hK zfin_2 (fa_2_1 ht) q_48 d2_isNamed_16 (fun hf2 => ?_)
  refine g_icmp_ge hK hx4 hf2 (tgt := 46) (by decide) d2_isNamed_19 (fun _ => ?_) (fun _ => ?_)
  · refine g_iconst hK d2_isNamed_46 zki1 ?_
    exact g_zret hK (by decide) rfl rfl d2_isNamed_47
  · refine g_aload_n hK 0 rfl rfl d2_isNamed_22 ?_
    refine g_getR hK zfin_2 (fa_2_0 ht) q_46 (pt_2_name ht) d2_isNamed_23 ?_
    refine g_iload hK 3 rfl d2_isNamed_26 ?_
    refine g_iald hK (pt_2_name_k ht) d2_isNamed_28 (fun _ hl1 => ?_)
    refine g_aload_n hK 1 rfl rfl d2_isNamed_29 ?_
    refine g_iload_n hK 2 rfl rfl d2_isNamed_30 ?_
    refine g_iload hK 3 rfl d2_isNamed_31 ?_
    refine g_iadd hK d2_isNamed_33 (fun v1 hv1 => ?_)
    refine g_iald hK ha1 d2_isNamed_34 (fun _ hl2 => ?_)
    refine g_icmp_eq hK hl1 hl2 (tgt := 40) (by decide) d2_isNamed_35 (fun _ => ?_) (fun _ => ?_)
    · refine g_iinc hK (lv2 := fun v2 => [(0, .ref (Z.2.2.1 + t)), (1, .ref (Z.2.2.1 + a1)), (2, .int (zi a2)), (4, .int (zi v2))]) 3 rfl [1, 2, 3, 0] (fun _ => rfl) (by decide) d2_isNamed_40 (fun v2 hv2 => ?_)
      refine g_goto hK (tgt := 13) (by decide) d2_isNamed_43 ?_
      exact hk13 v2  hv2
    · refine g_iconst hK d2_isNamed_38 zki0 ?_
      exact g_zret hK (by decide) rfl rfl d2_isNamed_39
set_option maxRecDepth 20000 in
theorem l2_isNamed_13 {K : zK} {Z : zZ} (hcx : zOk K Z b2_isNamed RX2 5 (some .boolean) 0 8 0 0 ∧ ∀ x ∈ K.2.2.2.2.2.2.2.2.2.exceptionTable.toList, False) (t : Nat) (a1 : Nat) (a2 : Int) (a3 : Int) (μ : zM) (ht : zkd t = 2) (ha1 : zkd a1 = 100) (ha2 : zr a2) (ha3 : zr a3) : ∀ (i9 : Nat) (x4 : Int) (hx4 : zr x4), zG K Z (zΩ Z) (zF K Z (zΩ Z) (zeP mkZ μ)) 0 0 13 [(0, .ref (Z.2.2.1 + t)), (1, .ref (Z.2.2.1 + a1)), (2, .int (zi a2)), (4, .int (zi x4))] [] μ (zfx (f2_isNamed_13 t a1 a2 a3 μ) (fun _ => none) i9 x4) := by
  intro i9
  induction i9 with
  | zero => intro x4 hx4; exact g_none
  | succ i9 ih => intro x4 hx4; exact p2_isNamed_13 hcx t a1 a2 a3 μ ht ha1 ha2 ha3  (zfx (f2_isNamed_13 t a1 a2 a3 μ) (fun _ => none) i9) ih x4 hx4
set_option maxRecDepth 20000 in
theorem c2_isNamed (l : Launch) (hst : l.stackTraces = false) (Z : zZ) (t : Nat) (a1 : Nat) (a2 : Int) (a3 : Int) (μ : zM) (ht : zkd t = 2) (ha1 : zkd a1 = 100) (ha2 : zr a2) (ha3 : zr a3) : ∀ x, f2_isNamed t a1 a2 a3 μ = some x → zCt l Z (zΩ Z) y2_isNamed (zws (.code y2_isNamed b2_isNamed 5 (some .boolean))) rm2_isNamed [.ref (Z.2.2.1 + t), .ref (Z.2.2.1 + a1), .int (zi a2), .int (zi a3)] μ (zeP mkZ μ x) := by
  intro x h
  refine zCt.of (enc := (zeP mkZ μ)) h (by decide) hst (Nat.le_of_ble_eq_true rfl) (fun K hK0 hex hl _ => ?_)
  subst hl
  have hcx : zOk K Z b2_isNamed RX2 5 (some .boolean) 0 8 0 0 ∧ ∀ x ∈ K.2.2.2.2.2.2.2.2.2.exceptionTable.toList, False := ⟨hK0, hex⟩
  have hK := hcx.1
  show zG K Z (zΩ Z) (zF K Z (zΩ Z) (zeP mkZ μ)) 0 0 0 [(0, .ref (Z.2.2.1 + t)), (1, .ref (Z.2.2.1 + a1)), (2, .int (zi a2)), (3, .int (zi a3))] [] μ (f2_isNamed t a1 a2 a3 μ)
  unfold f2_isNamed
  refine g_iload_n hK 3 rfl rfl d2_isNamed_0 ?_
  refine g_aload_n hK 0 rfl rfl d2_isNamed_1 ?_
  refine g_getI hK zfin_2 (fa_2_1 ht) q_48 d2_isNamed_2 (fun hf1 => ?_)
  refine g_icmp_eq hK ha3 hf1 (tgt := 10) (by decide) d2_isNamed_5 (fun _ => ?_) (fun _ => ?_)
  · refine g_iconst hK d2_isNamed_10 zki0 ?_
    refine g_istore hK (lv2 := [(0, .ref (Z.2.2.1 + t)), (1, .ref (Z.2.2.1 + a1)), (2, .int (zi a2)), (3, .int (zi a3)), (4, .int (zi 0))]) [1, 2, 3, 4, 0] rfl (by decide) d2_isNamed_11 ?_
    refine g_lv (lv2 := [(0, .ref (Z.2.2.1 + t)), (1, .ref (Z.2.2.1 + a1)), (2, .int (zi a2)), (4, .int (zi 0))]) [0, 1, 2, 4] rfl ?_
    exact l2_isNamed_13 hcx t a1 a2 a3 μ ht ha1 ha2 ha3  zFu 0  zc0
  · refine g_iconst hK d2_isNamed_8 zki0 ?_
    exact g_zret hK (by decide) rfl rfl d2_isNamed_9
set_option maxRecDepth 20000 in
theorem c2_addLiteral (l : Launch) (hst : l.stackTraces = false) (Z : zZ) (t : Nat) (a1 : Int) (a2 : Int) (μ : zM) (ht : zkd t = 2) (ha1 : zr a1) (ha2 : zr a2) : ∀ x, f2_addLiteral t a1 a2 μ = some x → zCt l Z (zΩ Z) y2_addLiteral (zws (.code y2_addLiteral b2_addLiteral 3 (none))) rm2_addLiteral [.ref (Z.2.2.1 + t), .int (zi a1), .int (zi a2)] μ (zeM x) := by
  intro x h
  refine zCt.of (enc := zeM) h (by decide) hst (Nat.le_of_ble_eq_true rfl) (fun K hK0 hex hl _ => ?_)
  subst hl
  have hcx : zOk K Z b2_addLiteral RX2 3 (none) 0 8 0 0 ∧ ∀ x ∈ K.2.2.2.2.2.2.2.2.2.exceptionTable.toList, False := ⟨hK0, hex⟩
  have hK := hcx.1
  show zG K Z (zΩ Z) (zF K Z (zΩ Z) zeM) 0 0 0 [(0, .ref (Z.2.2.1 + t)), (1, .int (zi a1)), (2, .int (zi a2))] [] μ (f2_addLiteral t a1 a2 μ)
  unfold f2_addLiteral
  refine g_aload_n hK 0 rfl rfl d2_addLiteral_0 ?_
  refine g_getI hK zfin_2 (fa_2_16 ht) q_89 d2_addLiteral_1 (fun hf1 => ?_)
  refine g_aload_n hK 0 rfl rfl d2_addLiteral_4 ?_
  refine g_getR hK zfin_2 (fa_2_11 ht) q_80 (pt_2_items ht) d2_addLiteral_5 ?_
  refine g_alen100 hK (pt_2_items_k ht) d2_addLiteral_8 (fun hl1 => ?_)
  refine g_icmp_ge hK hf1 hl1 (tgt := 54) (by decide) d2_addLiteral_9 (fun _ => ?_) (fun _ => ?_)
  · exact g_vret hK rfl rfl d2_addLiteral_54
  · refine g_aload_n hK 0 rfl rfl d2_addLiteral_12 ?_
    refine g_getR hK zfin_2 (fa_2_11 ht) q_80 (pt_2_items ht) d2_addLiteral_13 ?_
    refine g_aload_n hK 0 rfl rfl d2_addLiteral_16 ?_
    refine g_getI hK zfin_2 (fa_2_16 ht) q_89 d2_addLiteral_17 (fun hf2 => ?_)
    refine g_iload_n hK 1 rfl rfl d2_addLiteral_20 ?_
    refine g_iast hK ha1 (pt_2_items_k ht) d2_addLiteral_21 (fun _ => ?_)
    refine g_ltM (fun m1 => ?_)
    refine g_aload_n hK 0 rfl rfl d2_addLiteral_22 ?_
    refine g_getR hK zfin_2 (fa_2_12 ht) q_82 (pt_2_partOfItem ht) d2_addLiteral_23 ?_
    refine g_aload_n hK 0 rfl rfl d2_addLiteral_26 ?_
    refine g_getI hK zfin_2 (fa_2_16 ht) q_89 d2_addLiteral_27 (fun hf3 => ?_)
    refine g_iload_n hK 2 rfl rfl d2_addLiteral_30 ?_
    refine g_iast hK ha2 (pt_2_partOfItem_k ht) d2_addLiteral_31 (fun _ => ?_)
    refine g_ltM (fun m2 => ?_)
    refine g_aload_n hK 0 rfl rfl d2_addLiteral_32 ?_
    refine g_dup hK d2_addLiteral_33 rfl ?_
    refine g_getI hK zfin_2 (fa_2_16 ht) q_89 d2_addLiteral_34 (fun hf4 => ?_)
    refine g_iconst hK d2_addLiteral_37 zki1 ?_
    refine g_iadd hK d2_addLiteral_38 (fun v1 hv1 => ?_)
    refine g_putI hK zfin_2 (fa_2_16 ht) q_89 hv1 rfl (tyX2_ok 16 (by decide)) tyX2 tyX2_ok nmX2 d2_addLiteral_39 ?_
    refine g_ltM (fun m3 => ?_)
    refine g_aload_n hK 0 rfl rfl d2_addLiteral_42 ?_
    refine g_getR hK zfin_2 (fa_2_10 ht) q_78 (pt_2_literalsOfParts ht) d2_addLiteral_43 ?_
    refine g_iload_n hK 2 rfl rfl d2_addLiteral_46 ?_
    refine g_iconst hK d2_addLiteral_47 zki1 ?_
    refine g_iadd hK d2_addLiteral_48 (fun v2 hv2 => ?_)
    refine g_dup2 hK d2_addLiteral_49 rfl rfl ?_
    refine g_iald hK (pt_2_literalsOfParts_k ht) d2_addLiteral_50 (fun _ hl2 => ?_)
    refine g_iconst hK d2_addLiteral_51 zki1 ?_
    refine g_iadd hK d2_addLiteral_52 (fun v3 hv3 => ?_)
    refine g_iast hK hv3 (pt_2_literalsOfParts_k ht) d2_addLiteral_53 (fun _ => ?_)
    refine g_ltM (fun m4 => ?_)
    exact g_vret hK rfl rfl d2_addLiteral_54
set_option maxRecDepth 20000 in
theorem p2_addOccurrence_75 {K : zK} {Z : zZ} (hcx : zOk K Z b2_addOccurrence RX2 4 (some .int) 0 8 0 0 ∧ ∀ x ∈ K.2.2.2.2.2.2.2.2.2.exceptionTable.toList, False) (t : Nat) (a1 : Int) (a2 : Int) (ht : zkd t = 2) (ha1 : zr a1) (ha2 : zr a2) (x3 : Int) (s0 : Int) (s1 : Int) (s2 : Nat) (μ : zM) (hx3 : zr x3) (hs0 : zr s0) (hs1 : zr s1) (hs2 : zkd s2 = 100) : zG K Z (zΩ Z) (zF K Z (zΩ Z) (ze2 mkI)) 0 0 75 [(0, .ref (Z.2.2.1 + t)), (1, .int (zi a1)), (2, .int (zi a2)), (3, .int (zi x3))] [.int (zi s0), .int (zi s1), .ref (Z.2.2.1 + s2)] μ (f2_addOccurrence_75 t a1 a2 x3 s0 s1 s2 μ) := by
  obtain ⟨hK, hex⟩ := id hcx
  unfold f2_addOccurrence_75
  refine g_iast hK hs0 hs2 d2_addOccurrence_75 (fun _ => ?_)
  refine g_ltM (fun m5 => ?_)
  refine g_aload_n hK 0 rfl rfl d2_addOccurrence_76 ?_
  refine g_getR hK zfin_2 (fa_2_11 ht) q_80 (pt_2_items ht) d2_addOccurrence_77 ?_
  refine g_aload_n hK 0 rfl rfl d2_addOccurrence_80 ?_
  refine g_getI hK zfin_2 (fa_2_16 ht) q_89 d2_addOccurrence_81 (fun hf3 => ?_)
  refine g_iload_n hK 3 rfl rfl d2_addOccurrence_84 ?_
  refine g_ineg hK d2_addOccurrence_85 (fun v3 hv3 => ?_)
  refine g_iconst hK d2_addOccurrence_86 zki1 ?_
  refine g_isub hK d2_addOccurrence_87 (fun v4 hv4 => ?_)
  refine g_iast hK hv4 (pt_2_items_k ht) d2_addOccurrence_88 (fun _ => ?_)
  refine g_ltM (fun m6 => ?_)
  refine g_aload_n hK 0 rfl rfl d2_addOccurrence_89 ?_
  refine g_getR hK zfin_2 (fa_2_12 ht) q_82 (pt_2_partOfItem ht) d2_addOccurrence_90 ?_
  refine g_aload_n hK 0 rfl rfl d2_addOccurrence_93 ?_
  refine g_getI hK zfin_2 (fa_2_16 ht) q_89 d2_addOccurrence_94 (fun hf4 => ?_)
  refine g_iload_n hK 2 rfl rfl d2_addOccurrence_97 ?_
  refine g_iast hK ha2 (pt_2_partOfItem_k ht) d2_addOccurrence_98 (fun _ => ?_)
  refine g_ltM (fun m7 => ?_)
  refine g_aload_n hK 0 rfl rfl d2_addOccurrence_99 ?_
  refine g_getR hK zfin_2 (fa_2_13 ht) q_84 (pt_2_itemOfOccurrence ht) d2_addOccurrence_100 ?_
  refine g_iload_n hK 3 rfl rfl d2_addOccurrence_103 ?_
  refine g_aload_n hK 0 rfl rfl d2_addOccurrence_104 ?_
  refine g_getI hK zfin_2 (fa_2_16 ht) q_89 d2_addOccurrence_105 (fun hf5 => ?_)
  refine g_iast hK hf5 (pt_2_itemOfOccurrence_k ht) d2_addOccurrence_108 (fun _ => ?_)
  refine g_ltM (fun m8 => ?_)
  refine g_aload_n hK 0 rfl rfl d2_addOccurrence_109 ?_
  refine g_dup hK d2_addOccurrence_110 rfl ?_
  refine g_getI hK zfin_2 (fa_2_16 ht) q_89 d2_addOccurrence_111 (fun hf6 => ?_)
  refine g_iconst hK d2_addOccurrence_114 zki1 ?_
  refine g_iadd hK d2_addOccurrence_115 (fun v5 hv5 => ?_)
  refine g_putI hK zfin_2 (fa_2_16 ht) q_89 hv5 rfl (tyX2_ok 16 (by decide)) tyX2 tyX2_ok nmX2 d2_addOccurrence_116 ?_
  refine g_ltM (fun m9 => ?_)
  refine g_aload_n hK 0 rfl rfl d2_addOccurrence_119 ?_
  refine g_dup hK d2_addOccurrence_120 rfl ?_
  refine g_getI hK zfin_2 (fa_2_2 ht) q_50 d2_addOccurrence_121 (fun hf7 => ?_)
  refine g_iconst hK d2_addOccurrence_124 zki1 ?_
  refine g_iadd hK d2_addOccurrence_125 (fun v6 hv6 => ?_)
  refine g_putI hK zfin_2 (fa_2_2 ht) q_50 hv6 rfl (tyX2_ok 2 (by decide)) tyX2 tyX2_ok nmX2 d2_addOccurrence_126 ?_
  refine g_ltM (fun m10 => ?_)
  refine g_aload_n hK 0 rfl rfl d2_addOccurrence_129 ?_
  refine g_dup hK d2_addOccurrence_130 rfl ?_
  refine g_getI hK zfin_2 (fa_2_3 ht) q_54 d2_addOccurrence_131 (fun hf8 => ?_)
  refine g_iconst hK d2_addOccurrence_134 zki1 ?_
  refine g_iload_n hK 1 rfl rfl d2_addOccurrence_135 ?_
  refine g_ishl hK d2_addOccurrence_136 (fun v7 hv7 => ?_)
  refine g_ior hK d2_addOccurrence_137 (fun v8 hv8 => ?_)
  refine g_putI hK zfin_2 (fa_2_3 ht) q_54 hv8 rfl (tyX2_ok 3 (by decide)) tyX2 tyX2_ok nmX2 d2_addOccurrence_138 ?_
  refine g_ltM (fun m11 => ?_)
  refine g_iload_n hK 3 rfl rfl d2_addOccurrence_141 ?_
  exact g_iret hK hx3 rfl rfl d2_addOccurrence_142
set_option maxRecDepth 20000 in
theorem c2_addOccurrence (l : Launch) (hst : l.stackTraces = false) (Z : zZ) (t : Nat) (a1 : Int) (a2 : Int) (μ : zM) (ht : zkd t = 2) (ha1 : zr a1) (ha2 : zr a2) : ∀ x, f2_addOccurrence t a1 a2 μ = some x → zCt l Z (zΩ Z) y2_addOccurrence (zws (.code y2_addOccurrence b2_addOccurrence 4 (some .int))) rm2_addOccurrence [.ref (Z.2.2.1 + t), .int (zi a1), .int (zi a2)] μ (ze2 mkI x) := by
  intro x h
  refine zCt.of (enc := (ze2 mkI)) h (by decide) hst (Nat.le_of_ble_eq_true rfl) (fun K hK0 hex hl _ => ?_)
  subst hl
  have hcx : zOk K Z b2_addOccurrence RX2 4 (some .int) 0 8 0 0 ∧ ∀ x ∈ K.2.2.2.2.2.2.2.2.2.exceptionTable.toList, False := ⟨hK0, hex⟩
  have hK := hcx.1
  show zG K Z (zΩ Z) (zF K Z (zΩ Z) (ze2 mkI)) 0 0 0 [(0, .ref (Z.2.2.1 + t)), (1, .int (zi a1)), (2, .int (zi a2))] [] μ (f2_addOccurrence t a1 a2 μ)
  unfold f2_addOccurrence
  refine g_aload_n hK 0 rfl rfl d2_addOccurrence_0 ?_
  refine g_getI hK zfin_2 (fa_2_2 ht) q_50 d2_addOccurrence_1 (fun hf1 => ?_)
  refine g_ltI hf1 (fun v1 hv1 => ?_)
  refine g_istore_n hK (lv2 := [(0, .ref (Z.2.2.1 + t)), (1, .int (zi a1)), (2, .int (zi a2)), (3, .int (zi v1))]) [1, 2, 3, 0] rfl rfl (by decide) d2_addOccurrence_4 ?_
  refine g_iload_n hK 3 rfl rfl d2_addOccurrence_5 ?_
  refine g_bipush hK d2_addOccurrence_6 zkb60 ?_
  refine g_icmp_ge hK hv1 zc60 (tgt := 23) (by decide) d2_addOccurrence_8 (fun _ => ?_) (fun _ => ?_)
  · refine g_iconst hK d2_addOccurrence_23 zkim1 ?_
    exact g_iret hK zcm1 rfl rfl d2_addOccurrence_24
  · refine g_aload_n hK 0 rfl rfl d2_addOccurrence_11 ?_
    refine g_getI hK zfin_2 (fa_2_16 ht) q_89 d2_addOccurrence_12 (fun hf2 => ?_)
    refine g_aload_n hK 0 rfl rfl d2_addOccurrence_15 ?_
    refine g_getR hK zfin_2 (fa_2_11 ht) q_80 (pt_2_items ht) d2_addOccurrence_16 ?_
    refine g_alen100 hK (pt_2_items_k ht) d2_addOccurrence_19 (fun hl1 => ?_)
    refine g_icmp_lt hK hf2 hl1 (tgt := 25) (by decide) d2_addOccurrence_20 (fun _ => ?_) (fun _ => ?_)
    · refine g_aload_n hK 0 rfl rfl d2_addOccurrence_25 ?_
      refine g_getR hK zfin_2 (fa_2_4 ht) q_57 (pt_2_fields ht) d2_addOccurrence_26 ?_
      refine g_iload_n hK 3 rfl rfl d2_addOccurrence_29 ?_
      refine g_iload_n hK 1 rfl rfl d2_addOccurrence_30 ?_
      refine g_iast hK ha1 (pt_2_fields_k ht) d2_addOccurrence_31 (fun _ => ?_)
      refine g_ltM (fun m1 => ?_)
      refine g_aload_n hK 0 rfl rfl d2_addOccurrence_32 ?_
      refine g_getR hK zfin_2 (fa_2_5 ht) q_61 (pt_2_changes ht) d2_addOccurrence_33 ?_
      refine g_iload_n hK 3 rfl rfl d2_addOccurrence_36 ?_
      refine g_iconst hK d2_addOccurrence_37 zki0 ?_
      refine g_iast hK zc0 (pt_2_changes_k ht) d2_addOccurrence_38 (fun _ => ?_)
      refine g_ltM (fun m2 => ?_)
      refine g_aload_n hK 0 rfl rfl d2_addOccurrence_39 ?_
      refine g_getR hK zfin_2 (fa_2_6 ht) q_65 (pt_2_hasDefault ht) d2_addOccurrence_40 ?_
      refine g_iload_n hK 3 rfl rfl d2_addOccurrence_43 ?_
      refine g_iconst hK d2_addOccurrence_44 zki0 ?_
      refine g_zast hK (pt_2_hasDefault_k ht) d2_addOccurrence_45 (fun _ => ?_)
      refine g_ltM (fun m3 => ?_)
      refine g_aload_n hK 0 rfl rfl d2_addOccurrence_46 ?_
      refine g_getR hK zfin_2 (fa_2_7 ht) q_69 (pt_2_parents ht) d2_addOccurrence_47 ?_
      refine g_iload_n hK 3 rfl rfl d2_addOccurrence_50 ?_
      refine g_iload_n hK 2 rfl rfl d2_addOccurrence_51 ?_
      refine g_iast hK ha2 (pt_2_parents_k ht) d2_addOccurrence_52 (fun _ => ?_)
      refine g_ltM (fun m4 => ?_)
      refine g_aload_n hK 0 rfl rfl d2_addOccurrence_53 ?_
      refine g_getR hK zfin_2 (fa_2_8 ht) q_73 (pt_2_nestings ht) d2_addOccurrence_54 ?_
      refine g_iload_n hK 3 rfl rfl d2_addOccurrence_57 ?_
      refine g_iload_n hK 2 rfl rfl d2_addOccurrence_58 ?_
      refine g_iconst hK d2_addOccurrence_59 zkim1 ?_
      refine g_icmp_ne hK ha2 zcm1 (tgt := 67) (by decide) d2_addOccurrence_60 (fun _ => ?_) (fun _ => ?_)
      · refine g_aload_n hK 0 rfl rfl d2_addOccurrence_67 ?_
        refine g_getR hK zfin_2 (fa_2_8 ht) q_73 (pt_2_nestings ht) d2_addOccurrence_68 ?_
        refine g_iload_n hK 2 rfl rfl d2_addOccurrence_71 ?_
        refine g_iald hK (pt_2_nestings_k ht) d2_addOccurrence_72 (fun _ hl2 => ?_)
        refine g_iconst hK d2_addOccurrence_73 zki1 ?_
        refine g_iadd hK d2_addOccurrence_74 (fun v2 hv2 => ?_)
        exact p2_addOccurrence_75 hcx t a1 a2 ht ha1 ha2  v1 v2 v1 (zsb t + 6) m4 hv1 hv2 hv1 (pt_2_nestings_k ht)
      · refine g_iconst hK d2_addOccurrence_63 zki0 ?_
        refine g_goto hK (tgt := 75) (by decide) d2_addOccurrence_64 ?_
        exact p2_addOccurrence_75 hcx t a1 a2 ht ha1 ha2  v1 0 v1 (zsb t + 6) m4 hv1 zc0 hv1 (pt_2_nestings_k ht)
    · refine g_iconst hK d2_addOccurrence_23 zkim1 ?_
      exact g_iret hK zcm1 rfl rfl d2_addOccurrence_24
set_option maxRecDepth 20000 in
theorem p2_addDependence_41 {K : zK} {Z : zZ} (hcx : zOk K Z b2_addDependence RX2 5 (none) 0 8 0 0 ∧ ∀ x ∈ K.2.2.2.2.2.2.2.2.2.exceptionTable.toList, False) (t : Nat) (a1 : Int) (a2 : Int) (ht : zkd t = 2) (ha1 : zr a1) (ha2 : zr a2) (k14 : Int → Int → zM → Option zM) (hk14 : ∀ (x3 : Int) (x4 : Int) (μ : zM) (hx3 : zr x3) (hx4 : zr x4), zG K Z (zΩ Z) (zF K Z (zΩ Z) zeM) 0 0 14 [(0, .ref (Z.2.2.1 + t)), (1, .int (zi a1)), (3, .int (zi x3)), (4, .int (zi x4))] [] μ (k14 x3 x4 μ)) (x3 : Int) (x4 : Int) (μ : zM) (hx3 : zr x3) (hx4 : zr x4) : zG K Z (zΩ Z) (zF K Z (zΩ Z) zeM) 0 0 41 [(0, .ref (Z.2.2.1 + t)), (1, .int (zi a1)), (3, .int (zi x3)), (4, .int (zi x4))] [] μ (f2_addDependence_41 t a1 a2 k14 x3 x4 μ) := by
  obtain ⟨hK, hex⟩ := id hcx
  unfold f2_addDependence_41
  refine g_aload_n hK 0 rfl rfl d2_addDependence_41 ?_
  refine g_getR hK zfin_2 (fa_2_9 ht) q_75 (pt_2_dependsOn ht) d2_addDependence_42 ?_
  refine g_iload hK 3 rfl d2_addDependence_45 ?_
  refine g_dup2 hK d2_addDependence_47 rfl rfl ?_
  refine g_iald hK (pt_2_dependsOn_k ht) d2_addDependence_48 (fun _ hl3 => ?_)
  refine g_iload_n hK 2 rfl rfl d2_addDependence_49 ?_
  refine g_ior hK d2_addDependence_50 (fun v6 hv6 => ?_)
  refine g_iast hK hv6 (pt_2_dependsOn_k ht) d2_addDependence_51 (fun _ => ?_)
  refine g_ltM (fun m1 => ?_)
  refine g_iinc hK (lv2 := fun v7 => [(0, .ref (Z.2.2.1 + t)), (1, .int (zi a1)), (3, .int (zi x3)), (4, .int (zi v7))]) 3 rfl [1, 2, 3, 0] (fun _ => rfl) (by decide) d2_addDependence_52 (fun v7 hv7 => ?_)
  refine g_goto hK (tgt := 14) (by decide) d2_addDependence_55 ?_
  exact hk14 x3 v7 m1 hx3 hv7
set_option maxRecDepth 20000 in
theorem p2_addDependence_14 {K : zK} {Z : zZ} (hcx : zOk K Z b2_addDependence RX2 5 (none) 0 8 0 0 ∧ ∀ x ∈ K.2.2.2.2.2.2.2.2.2.exceptionTable.toList, False) (t : Nat) (a1 : Int) (a2 : Int) (ht : zkd t = 2) (ha1 : zr a1) (ha2 : zr a2) (k14 : Int → Int → zM → Option zM) (hk14 : ∀ (x3 : Int) (x4 : Int) (μ : zM) (hx3 : zr x3) (hx4 : zr x4), zG K Z (zΩ Z) (zF K Z (zΩ Z) zeM) 0 0 14 [(0, .ref (Z.2.2.1 + t)), (1, .int (zi a1)), (3, .int (zi x3)), (4, .int (zi x4))] [] μ (k14 x3 x4 μ)) (x3 : Int) (x4 : Int) (μ : zM) (hx3 : zr x3) (hx4 : zr x4) : zG K Z (zΩ Z) (zF K Z (zΩ Z) zeM) 0 0 14 [(0, .ref (Z.2.2.1 + t)), (1, .int (zi a1)), (3, .int (zi x3)), (4, .int (zi x4))] [] μ (f2_addDependence_14 t a1 a2 k14 x3 x4 μ) := by
  obtain ⟨hK, hex⟩ := id hcx
  unfold f2_addDependence_14
  refine g_iload hK 3 rfl d2_addDependence_14 ?_
  refine g_bipush hK d2_addDependence_16 zkb10 ?_
  refine g_icmp_ge hK hx4 zc10 (tgt := 58) (by decide) d2_addDependence_18 (fun _ => ?_) (fun _ => ?_)
  · exact g_vret hK rfl rfl d2_addDependence_58
  · refine g_iload hK 3 rfl d2_addDependence_21 ?_
    refine g_iload_n hK 1 rfl rfl d2_addDependence_23 ?_
    refine g_icmp_eq hK hx4 ha1 (tgt := 41) (by decide) d2_addDependence_24 (fun _ => ?_) (fun _ => ?_)
    · exact p2_addDependence_41 hcx t a1 a2 ht ha1 ha2 k14 hk14 x3 x4 μ hx3 hx4
    · refine g_aload_n hK 0 rfl rfl d2_addDependence_27 ?_
      refine g_getR hK zfin_2 (fa_2_9 ht) q_75 (pt_2_dependsOn ht) d2_addDependence_28 ?_
      refine g_iload hK 3 rfl d2_addDependence_31 ?_
      refine g_iald hK (pt_2_dependsOn_k ht) d2_addDependence_33 (fun _ hl2 => ?_)
      refine g_iload_n hK 1 rfl rfl d2_addDependence_34 ?_
      refine g_ishr hK d2_addDependence_35 (fun v3 hv3 => ?_)
      refine g_iconst hK d2_addDependence_36 zki1 ?_
      refine g_iand hK d2_addDependence_37 (fun v4 hv4 => ?_)
      refine g_if_eq hK hv4 (tgt := 52) (by decide) d2_addDependence_38 (fun _ => ?_) (fun _ => ?_)
      · refine g_iinc hK (lv2 := fun v5 => [(0, .ref (Z.2.2.1 + t)), (1, .int (zi a1)), (3, .int (zi x3)), (4, .int (zi v5))]) 3 rfl [1, 2, 3, 0] (fun _ => rfl) (by decide) d2_addDependence_52 (fun v5 hv5 => ?_)
        refine g_goto hK (tgt := 14) (by decide) d2_addDependence_55 ?_
        exact hk14 x3 v5 μ hx3 hv5
      · exact p2_addDependence_41 hcx t a1 a2 ht ha1 ha2 k14 hk14 x3 x4 μ hx3 hx4
set_option maxRecDepth 20000 in
theorem l2_addDependence_14 {K : zK} {Z : zZ} (hcx : zOk K Z b2_addDependence RX2 5 (none) 0 8 0 0 ∧ ∀ x ∈ K.2.2.2.2.2.2.2.2.2.exceptionTable.toList, False) (t : Nat) (a1 : Int) (a2 : Int) (ht : zkd t = 2) (ha1 : zr a1) (ha2 : zr a2) : ∀ (i9 : Nat) (x3 : Int) (x4 : Int) (μ : zM) (hx3 : zr x3) (hx4 : zr x4), zG K Z (zΩ Z) (zF K Z (zΩ Z) zeM) 0 0 14 [(0, .ref (Z.2.2.1 + t)), (1, .int (zi a1)), (3, .int (zi x3)), (4, .int (zi x4))] [] μ (zfx (f2_addDependence_14 t a1 a2) (fun _ _ _ => none) i9 x3 x4 μ) := by
  intro i9
  induction i9 with
  | zero => intro x3 x4 μ hx3 hx4; exact g_none
  | succ i9 ih => intro x3 x4 μ hx3 hx4; exact p2_addDependence_14 hcx t a1 a2 ht ha1 ha2  (zfx (f2_addDependence_14 t a1 a2) (fun _ _ _ => none) i9) ih x3 x4 μ hx3 hx4
set_option maxRecDepth 20000 in
theorem c2_addDependence (l : Launch) (hst : l.stackTraces = false) (Z : zZ) (t : Nat) (a1 : Int) (a2 : Int) (μ : zM) (ht : zkd t = 2) (ha1 : zr a1) (ha2 : zr a2) : ∀ x, f2_addDependence t a1 a2 μ = some x → zCt l Z (zΩ Z) y2_addDependence (zws (.code y2_addDependence b2_addDependence 5 (none))) rm2_addDependence [.ref (Z.2.2.1 + t), .int (zi a1), .int (zi a2)] μ (zeM x) := by
  intro x h
  refine zCt.of (enc := zeM) h (by decide) hst (Nat.le_of_ble_eq_true rfl) (fun K hK0 hex hl _ => ?_)
  subst hl
  have hcx : zOk K Z b2_addDependence RX2 5 (none) 0 8 0 0 ∧ ∀ x ∈ K.2.2.2.2.2.2.2.2.2.exceptionTable.toList, False := ⟨hK0, hex⟩
  have hK := hcx.1
  show zG K Z (zΩ Z) (zF K Z (zΩ Z) zeM) 0 0 0 [(0, .ref (Z.2.2.1 + t)), (1, .int (zi a1)), (2, .int (zi a2))] [] μ (f2_addDependence t a1 a2 μ)
  unfold f2_addDependence
  refine g_aload_n hK 0 rfl rfl d2_addDependence_0 ?_
  refine g_getR hK zfin_2 (fa_2_9 ht) q_75 (pt_2_dependsOn ht) d2_addDependence_1 ?_
  refine g_iload_n hK 2 rfl rfl d2_addDependence_4 ?_
  refine g_iald hK (pt_2_dependsOn_k ht) d2_addDependence_5 (fun _ hl1 => ?_)
  refine g_iconst hK d2_addDependence_6 zki1 ?_
  refine g_iload_n hK 2 rfl rfl d2_addDependence_7 ?_
  refine g_ishl hK d2_addDependence_8 (fun v1 hv1 => ?_)
  refine g_ior hK d2_addDependence_9 (fun v2 hv2 => ?_)
  refine g_istore_n hK (lv2 := [(0, .ref (Z.2.2.1 + t)), (1, .int (zi a1)), (2, .int (zi a2)), (3, .int (zi v2))]) [1, 2, 3, 0] rfl rfl (by decide) d2_addDependence_10 ?_
  refine g_iconst hK d2_addDependence_11 zki0 ?_
  refine g_istore hK (lv2 := [(0, .ref (Z.2.2.1 + t)), (1, .int (zi a1)), (2, .int (zi a2)), (3, .int (zi v2)), (4, .int (zi 0))]) [1, 2, 3, 4, 0] rfl (by decide) d2_addDependence_12 ?_
  refine g_lv (lv2 := [(0, .ref (Z.2.2.1 + t)), (1, .int (zi a1)), (3, .int (zi v2)), (4, .int (zi 0))]) [0, 1, 3, 4] rfl ?_
  exact l2_addDependence_14 hcx t a1 a2 ht ha1 ha2  zFu v2 0 μ hv2 zc0
set_option maxRecDepth 20000 in
theorem c2_wouldDependOnItself (l : Launch) (hst : l.stackTraces = false) (Z : zZ) (t : Nat) (a1 : Int) (a2 : Int) (μ : zM) (ht : zkd t = 2) (ha1 : zr a1) (ha2 : zr a2) : ∀ x, f2_wouldDependOnItself t a1 a2 μ = some x → zCt l Z (zΩ Z) y2_wouldDependOnItself (zws (.code y2_wouldDependOnItself b2_wouldDependOnItself 4 (some .boolean))) rm2_wouldDependOnItself [.ref (Z.2.2.1 + t), .int (zi a1), .int (zi a2)] μ (zeP mkZ μ x) := by
  intro x h
  refine zCt.of (enc := (zeP mkZ μ)) h (by decide) hst (Nat.le_of_ble_eq_true rfl) (fun K hK0 hex hl _ => ?_)
  subst hl
  have hcx : zOk K Z b2_wouldDependOnItself RX2 4 (some .boolean) 0 8 0 0 ∧ ∀ x ∈ K.2.2.2.2.2.2.2.2.2.exceptionTable.toList, False := ⟨hK0, hex⟩
  have hK := hcx.1
  show zG K Z (zΩ Z) (zF K Z (zΩ Z) (zeP mkZ μ)) 0 0 0 [(0, .ref (Z.2.2.1 + t)), (1, .int (zi a1)), (2, .int (zi a2))] [] μ (f2_wouldDependOnItself t a1 a2 μ)
  unfold f2_wouldDependOnItself
  refine g_iload_n hK 2 rfl rfl d2_wouldDependOnItself_0 ?_
  refine g_iconst hK d2_wouldDependOnItself_1 zkim1 ?_
  refine g_icmp_ne hK ha2 zcm1 (tgt := 7) (by decide) d2_wouldDependOnItself_2 (fun _ => ?_) (fun _ => ?_)
  · refine g_aload_n hK 0 rfl rfl d2_wouldDependOnItself_7 ?_
    refine g_getR hK zfin_2 (fa_2_4 ht) q_57 (pt_2_fields ht) d2_wouldDependOnItself_8 ?_
    refine g_iload_n hK 2 rfl rfl d2_wouldDependOnItself_11 ?_
    refine g_iald hK (pt_2_fields_k ht) d2_wouldDependOnItself_12 (fun _ hl1 => ?_)
    refine g_ltI hl1 (fun v1 hv1 => ?_)
    refine g_istore_n hK (lv2 := [(0, .ref (Z.2.2.1 + t)), (1, .int (zi a1)), (2, .int (zi a2)), (3, .int (zi v1))]) [1, 2, 3, 0] rfl rfl (by decide) d2_wouldDependOnItself_13 ?_
    refine g_iload_n hK 1 rfl rfl d2_wouldDependOnItself_14 ?_
    refine g_iload_n hK 3 rfl rfl d2_wouldDependOnItself_15 ?_
    refine g_icmp_eq hK ha1 hv1 (tgt := 32) (by decide) d2_wouldDependOnItself_16 (fun _ => ?_) (fun _ => ?_)
    · refine g_iconst hK d2_wouldDependOnItself_32 zki1 ?_
      refine g_goto hK (tgt := 37) (by decide) d2_wouldDependOnItself_33 ?_
      exact g_zret hK (by decide) rfl rfl d2_wouldDependOnItself_37
    · refine g_aload_n hK 0 rfl rfl d2_wouldDependOnItself_19 ?_
      refine g_getR hK zfin_2 (fa_2_9 ht) q_75 (pt_2_dependsOn ht) d2_wouldDependOnItself_20 ?_
      refine g_iload_n hK 1 rfl rfl d2_wouldDependOnItself_23 ?_
      refine g_iald hK (pt_2_dependsOn_k ht) d2_wouldDependOnItself_24 (fun _ hl2 => ?_)
      refine g_iload_n hK 3 rfl rfl d2_wouldDependOnItself_25 ?_
      refine g_ishr hK d2_wouldDependOnItself_26 (fun v2 hv2 => ?_)
      refine g_iconst hK d2_wouldDependOnItself_27 zki1 ?_
      refine g_iand hK d2_wouldDependOnItself_28 (fun v3 hv3 => ?_)
      refine g_if_eq hK hv3 (tgt := 36) (by decide) d2_wouldDependOnItself_29 (fun _ => ?_) (fun _ => ?_)
      · refine g_iconst hK d2_wouldDependOnItself_36 zki0 ?_
        exact g_zret hK (by decide) rfl rfl d2_wouldDependOnItself_37
      · refine g_iconst hK d2_wouldDependOnItself_32 zki1 ?_
        refine g_goto hK (tgt := 37) (by decide) d2_wouldDependOnItself_33 ?_
        exact g_zret hK (by decide) rfl rfl d2_wouldDependOnItself_37
  · refine g_iconst hK d2_wouldDependOnItself_5 zki0 ?_
    exact g_zret hK (by decide) rfl rfl d2_wouldDependOnItself_6
set_option maxRecDepth 20000 in
theorem c2_firstItemOf (l : Launch) (hst : l.stackTraces = false) (Z : zZ) (t : Nat) (a1 : Int) (μ : zM) (ht : zkd t = 2) (ha1 : zr a1) : ∀ x, f2_firstItemOf t a1 μ = some x → zCt l Z (zΩ Z) y2_firstItemOf (zws (.code y2_firstItemOf b2_firstItemOf 2 (some .int))) rm2_firstItemOf [.ref (Z.2.2.1 + t), .int (zi a1)] μ (zeP mkI μ x) := by
  intro x h
  refine zCt.of (enc := (zeP mkI μ)) h (by decide) hst (Nat.le_of_ble_eq_true rfl) (fun K hK0 hex hl _ => ?_)
  subst hl
  have hcx : zOk K Z b2_firstItemOf RX2 2 (some .int) 0 8 0 0 ∧ ∀ x ∈ K.2.2.2.2.2.2.2.2.2.exceptionTable.toList, False := ⟨hK0, hex⟩
  have hK := hcx.1
  show zG K Z (zΩ Z) (zF K Z (zΩ Z) (zeP mkI μ)) 0 0 0 [(0, .ref (Z.2.2.1 + t)), (1, .int (zi a1))] [] μ (f2_firstItemOf t a1 μ)
  unfold f2_firstItemOf
  refine g_iload_n hK 1 rfl rfl d2_firstItemOf_0 ?_
  refine g_iconst hK d2_firstItemOf_1 zkim1 ?_
  refine g_icmp_ne hK ha1 zcm1 (tgt := 12) (by decide) d2_firstItemOf_2 (fun _ => ?_) (fun _ => ?_)
  · refine g_aload_n hK 0 rfl rfl d2_firstItemOf_12 ?_
    refine g_getR hK zfin_2 (fa_2_13 ht) q_84 (pt_2_itemOfOccurrence ht) d2_firstItemOf_13 ?_
    refine g_iload_n hK 1 rfl rfl d2_firstItemOf_16 ?_
    refine g_iald hK (pt_2_itemOfOccurrence_k ht) d2_firstItemOf_17 (fun _ hl1 => ?_)
    refine g_iconst hK d2_firstItemOf_18 zki1 ?_
    refine g_iadd hK d2_firstItemOf_19 (fun v1 hv1 => ?_)
    exact g_iret hK hv1 rfl rfl d2_firstItemOf_20
  · refine g_aload_n hK 0 rfl rfl d2_firstItemOf_5 ?_
    refine g_getI hK zfin_2 (fa_2_15 ht) q_88 d2_firstItemOf_6 (fun hf1 => ?_)
    refine g_goto hK (tgt := 20) (by decide) d2_firstItemOf_9 ?_
    exact g_iret hK hf1 rfl rfl d2_firstItemOf_20
set_option maxRecDepth 20000 in
theorem c2_endItemOf (l : Launch) (hst : l.stackTraces = false) (Z : zZ) (t : Nat) (a1 : Int) (μ : zM) (ht : zkd t = 2) (ha1 : zr a1) : ∀ x, f2_endItemOf t a1 μ = some x → zCt l Z (zΩ Z) y2_endItemOf (zws (.code y2_endItemOf b2_endItemOf 2 (some .int))) rm2_endItemOf [.ref (Z.2.2.1 + t), .int (zi a1)] μ (zeP mkI μ x) := by
  intro x h
  refine zCt.of (enc := (zeP mkI μ)) h (by decide) hst (Nat.le_of_ble_eq_true rfl) (fun K hK0 hex hl _ => ?_)
  subst hl
  have hcx : zOk K Z b2_endItemOf RX2 2 (some .int) 0 8 0 0 ∧ ∀ x ∈ K.2.2.2.2.2.2.2.2.2.exceptionTable.toList, False := ⟨hK0, hex⟩
  have hK := hcx.1
  show zG K Z (zΩ Z) (zF K Z (zΩ Z) (zeP mkI μ)) 0 0 0 [(0, .ref (Z.2.2.1 + t)), (1, .int (zi a1))] [] μ (f2_endItemOf t a1 μ)
  unfold f2_endItemOf
  refine g_iload_n hK 1 rfl rfl d2_endItemOf_0 ?_
  refine g_iconst hK d2_endItemOf_1 zkim1 ?_
  refine g_icmp_ne hK ha1 zcm1 (tgt := 12) (by decide) d2_endItemOf_2 (fun _ => ?_) (fun _ => ?_)
  · refine g_aload_n hK 0 rfl rfl d2_endItemOf_12 ?_
    refine g_getR hK zfin_2 (fa_2_14 ht) q_86 (pt_2_endOfDefault ht) d2_endItemOf_13 ?_
    refine g_iload_n hK 1 rfl rfl d2_endItemOf_16 ?_
    refine g_iald hK (pt_2_endOfDefault_k ht) d2_endItemOf_17 (fun _ hl1 => ?_)
    exact g_iret hK hl1 rfl rfl d2_endItemOf_18
  · refine g_aload_n hK 0 rfl rfl d2_endItemOf_5 ?_
    refine g_getI hK zfin_2 (fa_2_16 ht) q_89 d2_endItemOf_6 (fun hf1 => ?_)
    refine g_goto hK (tgt := 18) (by decide) d2_endItemOf_9 ?_
    exact g_iret hK hf1 rfl rfl d2_endItemOf_18
set_option maxRecDepth 20000 in
theorem p2_deepest_4 {K : zK} {Z : zZ} (hcx : zOk K Z b2_deepest RX2 3 (some .int) 1 23 0 0 ∧ ∀ x ∈ K.2.2.2.2.2.2.2.2.2.exceptionTable.toList, False) (t : Nat) (μ : zM) (ht : zkd t = 2) (k4 : Int → Int → Option Int) (hk4 : ∀ (x1 : Int) (x2 : Int) (hx1 : zr x1) (hx2 : zr x2), zG K Z (zΩ Z) (zF K Z (zΩ Z) (zeP mkI μ)) 0 0 4 [(0, .ref (Z.2.2.1 + t)), (1, .int (zi x1)), (2, .int (zi x2))] [] μ (k4 x1 x2)) (x1 : Int) (x2 : Int) (hx1 : zr x1) (hx2 : zr x2) : zG K Z (zΩ Z) (zF K Z (zΩ Z) (zeP mkI μ)) 0 0 4 [(0, .ref (Z.2.2.1 + t)), (1, .int (zi x1)), (2, .int (zi x2))] [] μ (f2_deepest_4 t μ k4 x1 x2) := by
  obtain ⟨hK, hex⟩ := id hcx
  unfold f2_deepest_4
  refine g_iload_n hK 2 rfl rfl d2_deepest_4 ?_
  refine g_aload_n hK 0 rfl rfl d2_deepest_5 ?_
  refine g_getI hK zfin_2 (fa_2_2 ht) q_50 d2_deepest_6 (fun hf1 => ?_)
  refine g_icmp_ge hK hx2 hf1 (tgt := 29) (by decide) d2_deepest_9 (fun _ => ?_) (fun _ => ?_)
  · refine g_iload_n hK 1 rfl rfl d2_deepest_29 ?_
    exact g_iret hK hx1 rfl rfl d2_deepest_30
  · refine g_iload_n hK 1 rfl rfl d2_deepest_12 ?_
    refine g_aload_n hK 0 rfl rfl d2_deepest_13 ?_
    refine g_getR hK zfin_2 (fa_2_8 ht) q_73 (pt_2_nestings ht) d2_deepest_14 ?_
    refine g_iload_n hK 2 rfl rfl d2_deepest_17 ?_
    refine g_iald hK (pt_2_nestings_k ht) d2_deepest_18 (fun _ hl1 => ?_)
    refine g_mmax hK hx1 hl1 q_838 q_839 q_13 q_840 (by decide) (Nat.le_of_ble_eq_true rfl) d2_deepest_19 (fun v1 hv1 => ?_)
    refine g_istore_n hK (lv2 := [(0, .ref (Z.2.2.1 + t)), (1, .int (zi v1)), (2, .int (zi x2))]) [1, 0, 2] rfl rfl (by decide) d2_deepest_22 ?_
    refine g_iinc hK (lv2 := fun v2 => [(0, .ref (Z.2.2.1 + t)), (1, .int (zi v1)), (2, .int (zi v2))]) 2 rfl [1, 2, 0] (fun _ => rfl) (by decide) d2_deepest_23 (fun v2 hv2 => ?_)
    refine g_goto hK (tgt := 4) (by decide) d2_deepest_26 ?_
    exact hk4 v1 v2  hv1 hv2
set_option maxRecDepth 20000 in
theorem l2_deepest_4 {K : zK} {Z : zZ} (hcx : zOk K Z b2_deepest RX2 3 (some .int) 1 23 0 0 ∧ ∀ x ∈ K.2.2.2.2.2.2.2.2.2.exceptionTable.toList, False) (t : Nat) (μ : zM) (ht : zkd t = 2) : ∀ (i9 : Nat) (x1 : Int) (x2 : Int) (hx1 : zr x1) (hx2 : zr x2), zG K Z (zΩ Z) (zF K Z (zΩ Z) (zeP mkI μ)) 0 0 4 [(0, .ref (Z.2.2.1 + t)), (1, .int (zi x1)), (2, .int (zi x2))] [] μ (zfx (f2_deepest_4 t μ) (fun _ _ => none) i9 x1 x2) := by
  intro i9
  induction i9 with
  | zero => intro x1 x2 hx1 hx2; exact g_none
  | succ i9 ih => intro x1 x2 hx1 hx2; exact p2_deepest_4 hcx t μ ht  (zfx (f2_deepest_4 t μ) (fun _ _ => none) i9) ih x1 x2 hx1 hx2
set_option maxRecDepth 20000 in
theorem c2_deepest (l : Launch) (hst : l.stackTraces = false) (Z : zZ) (t : Nat) (μ : zM) (ht : zkd t = 2) : ∀ x, f2_deepest t μ = some x → zCt l Z (zΩ Z) y2_deepest (zws (.code y2_deepest b2_deepest 3 (some .int))) rm2_deepest [.ref (Z.2.2.1 + t)] μ (zeP mkI μ x) := by
  intro x h
  refine zCt.of (enc := (zeP mkI μ)) h (by decide) hst (Nat.le_of_ble_eq_true rfl) (fun K hK0 hex hl _ => ?_)
  subst hl
  have hcx : zOk K Z b2_deepest RX2 3 (some .int) 1 23 0 0 ∧ ∀ x ∈ K.2.2.2.2.2.2.2.2.2.exceptionTable.toList, False := ⟨hK0, hex⟩
  have hK := hcx.1
  show zG K Z (zΩ Z) (zF K Z (zΩ Z) (zeP mkI μ)) 0 0 0 [(0, .ref (Z.2.2.1 + t))] [] μ (f2_deepest t μ)
  unfold f2_deepest
  refine g_iconst hK d2_deepest_0 zki0 ?_
  refine g_istore_n hK (lv2 := [(0, .ref (Z.2.2.1 + t)), (1, .int (zi 0))]) [1, 0] rfl rfl (by decide) d2_deepest_1 ?_
  refine g_iconst hK d2_deepest_2 zki0 ?_
  refine g_istore_n hK (lv2 := [(0, .ref (Z.2.2.1 + t)), (1, .int (zi 0)), (2, .int (zi 0))]) [1, 2, 0] rfl rfl (by decide) d2_deepest_3 ?_
  exact l2_deepest_4 hcx t μ ht  zFu 0 0  zc0 zc0
set_option maxRecDepth 20000 in
theorem p2_countDefaults_4 {K : zK} {Z : zZ} (hcx : zOk K Z b2_countDefaults RX2 3 (some .int) 0 8 0 0 ∧ ∀ x ∈ K.2.2.2.2.2.2.2.2.2.exceptionTable.toList, False) (t : Nat) (μ : zM) (ht : zkd t = 2) (k4 : Int → Int → Option Int) (hk4 : ∀ (x1 : Int) (x2 : Int) (hx1 : zr x1) (hx2 : zr x2), zG K Z (zΩ Z) (zF K Z (zΩ Z) (zeP mkI μ)) 0 0 4 [(0, .ref (Z.2.2.1 + t)), (1, .int (zi x1)), (2, .int (zi x2))] [] μ (k4 x1 x2)) (x1 : Int) (x2 : Int) (hx1 : zr x1) (hx2 : zr x2) : zG K Z (zΩ Z) (zF K Z (zΩ Z) (zeP mkI μ)) 0 0 4 [(0, .ref (Z.2.2.1 + t)), (1, .int (zi x1)), (2, .int (zi x2))] [] μ (f2_countDefaults_4 t μ k4 x1 x2) := by
  obtain ⟨hK, hex⟩ := id hcx
  unfold f2_countDefaults_4
  refine g_iload_n hK 2 rfl rfl d2_countDefaults_4 ?_
  refine g_aload_n hK 0 rfl rfl d2_countDefaults_5 ?_
  refine g_getI hK zfin_2 (fa_2_2 ht) q_50 d2_countDefaults_6 (fun hf1 => ?_)
  refine g_icmp_ge hK hx2 hf1 (tgt := 30) (by decide) d2_countDefaults_9 (fun _ => ?_) (fun _ => ?_)
  · refine g_iload_n hK 1 rfl rfl d2_countDefaults_30 ?_
    exact g_iret hK hx1 rfl rfl d2_countDefaults_31
  · refine g_aload_n hK 0 rfl rfl d2_countDefaults_12 ?_
    refine g_getR hK zfin_2 (fa_2_6 ht) q_65 (pt_2_hasDefault ht) d2_countDefaults_13 ?_
    refine g_iload_n hK 2 rfl rfl d2_countDefaults_16 ?_
    refine g_zald hK (pt_2_hasDefault_k ht) d2_countDefaults_17 (fun _ hl1 => ?_)
    refine g_if_eq hK hl1 (tgt := 24) (by decide) d2_countDefaults_18 (fun _ => ?_) (fun _ => ?_)
    · refine g_iinc hK (lv2 := fun v1 => [(0, .ref (Z.2.2.1 + t)), (1, .int (zi x1)), (2, .int (zi v1))]) 2 rfl [1, 2, 0] (fun _ => rfl) (by decide) d2_countDefaults_24 (fun v1 hv1 => ?_)
      refine g_goto hK (tgt := 4) (by decide) d2_countDefaults_27 ?_
      exact hk4 x1 v1  hx1 hv1
    · refine g_iinc hK (lv2 := fun v2 => [(0, .ref (Z.2.2.1 + t)), (1, .int (zi v2)), (2, .int (zi x2))]) 1 rfl [1, 0, 2] (fun _ => rfl) (by decide) d2_countDefaults_21 (fun v2 hv2 => ?_)
      refine g_iinc hK (lv2 := fun v3 => [(0, .ref (Z.2.2.1 + t)), (1, .int (zi v2)), (2, .int (zi v3))]) 2 rfl [1, 2, 0] (fun _ => rfl) (by decide) d2_countDefaults_24 (fun v3 hv3 => ?_)
      refine g_goto hK (tgt := 4) (by decide) d2_countDefaults_27 ?_
      exact hk4 v2 v3  hv2 hv3
set_option maxRecDepth 20000 in
theorem l2_countDefaults_4 {K : zK} {Z : zZ} (hcx : zOk K Z b2_countDefaults RX2 3 (some .int) 0 8 0 0 ∧ ∀ x ∈ K.2.2.2.2.2.2.2.2.2.exceptionTable.toList, False) (t : Nat) (μ : zM) (ht : zkd t = 2) : ∀ (i9 : Nat) (x1 : Int) (x2 : Int) (hx1 : zr x1) (hx2 : zr x2), zG K Z (zΩ Z) (zF K Z (zΩ Z) (zeP mkI μ)) 0 0 4 [(0, .ref (Z.2.2.1 + t)), (1, .int (zi x1)), (2, .int (zi x2))] [] μ (zfx (f2_countDefaults_4 t μ) (fun _ _ => none) i9 x1 x2) := by
  intro i9
  induction i9 with
  | zero => intro x1 x2 hx1 hx2; exact g_none
  | succ i9 ih => intro x1 x2 hx1 hx2; exact p2_countDefaults_4 hcx t μ ht  (zfx (f2_countDefaults_4 t μ) (fun _ _ => none) i9) ih x1 x2 hx1 hx2
set_option maxRecDepth 20000 in
theorem c2_countDefaults (l : Launch) (hst : l.stackTraces = false) (Z : zZ) (t : Nat) (μ : zM) (ht : zkd t = 2) : ∀ x, f2_countDefaults t μ = some x → zCt l Z (zΩ Z) y2_countDefaults (zws (.code y2_countDefaults b2_countDefaults 3 (some .int))) rm2_countDefaults [.ref (Z.2.2.1 + t)] μ (zeP mkI μ x) := by
  intro x h
  refine zCt.of (enc := (zeP mkI μ)) h (by decide) hst (Nat.le_of_ble_eq_true rfl) (fun K hK0 hex hl _ => ?_)
  subst hl
  have hcx : zOk K Z b2_countDefaults RX2 3 (some .int) 0 8 0 0 ∧ ∀ x ∈ K.2.2.2.2.2.2.2.2.2.exceptionTable.toList, False := ⟨hK0, hex⟩
  have hK := hcx.1
  show zG K Z (zΩ Z) (zF K Z (zΩ Z) (zeP mkI μ)) 0 0 0 [(0, .ref (Z.2.2.1 + t))] [] μ (f2_countDefaults t μ)
  unfold f2_countDefaults
  refine g_iconst hK d2_countDefaults_0 zki0 ?_
  refine g_istore_n hK (lv2 := [(0, .ref (Z.2.2.1 + t)), (1, .int (zi 0))]) [1, 0] rfl rfl (by decide) d2_countDefaults_1 ?_
  refine g_iconst hK d2_countDefaults_2 zki0 ?_
  refine g_istore_n hK (lv2 := [(0, .ref (Z.2.2.1 + t)), (1, .int (zi 0)), (2, .int (zi 0))]) [1, 2, 0] rfl rfl (by decide) d2_countDefaults_3 ?_
  exact l2_countDefaults_4 hcx t μ ht  zFu 0 0  zc0 zc0
set_option maxRecDepth 20000 in
theorem c2_countLiterals (l : Launch) (hst : l.stackTraces = false) (Z : zZ) (t : Nat) (μ : zM) (ht : zkd t = 2) : ∀ x, f2_countLiterals t μ = some x → zCt l Z (zΩ Z) y2_countLiterals (zws (.code y2_countLiterals b2_countLiterals 1 (some .int))) rm2_countLiterals [.ref (Z.2.2.1 + t)] μ (zeP mkI μ x) := by
  intro x h
  refine zCt.of (enc := (zeP mkI μ)) h (by decide) hst (Nat.le_of_ble_eq_true rfl) (fun K hK0 hex hl _ => ?_)
  subst hl
  have hcx : zOk K Z b2_countLiterals RX2 1 (some .int) 0 8 0 0 ∧ ∀ x ∈ K.2.2.2.2.2.2.2.2.2.exceptionTable.toList, False := ⟨hK0, hex⟩
  have hK := hcx.1
  show zG K Z (zΩ Z) (zF K Z (zΩ Z) (zeP mkI μ)) 0 0 0 [(0, .ref (Z.2.2.1 + t))] [] μ (f2_countLiterals t μ)
  unfold f2_countLiterals
  refine g_aload_n hK 0 rfl rfl d2_countLiterals_0 ?_
  refine g_getI hK zfin_2 (fa_2_16 ht) q_89 d2_countLiterals_1 (fun hf1 => ?_)
  refine g_aload_n hK 0 rfl rfl d2_countLiterals_4 ?_
  refine g_getI hK zfin_2 (fa_2_15 ht) q_88 d2_countLiterals_5 (fun hf2 => ?_)
  refine g_isub hK d2_countLiterals_8 (fun v1 hv1 => ?_)
  refine g_aload_n hK 0 rfl rfl d2_countLiterals_9 ?_
  refine g_getI hK zfin_2 (fa_2_2 ht) q_50 d2_countLiterals_10 (fun hf3 => ?_)
  refine g_isub hK d2_countLiterals_13 (fun v2 hv2 => ?_)
  exact g_iret hK hv2 rfl rfl d2_countLiterals_14
set_option maxRecDepth 20000 in
theorem p2_countOf_4 {K : zK} {Z : zZ} (hcx : zOk K Z b2_countOf RX2 4 (some .int) 0 8 0 0 ∧ ∀ x ∈ K.2.2.2.2.2.2.2.2.2.exceptionTable.toList, False) (t : Nat) (a1 : Int) (μ : zM) (ht : zkd t = 2) (ha1 : zr a1) (k4 : Int → Int → Option Int) (hk4 : ∀ (x2 : Int) (x3 : Int) (hx2 : zr x2) (hx3 : zr x3), zG K Z (zΩ Z) (zF K Z (zΩ Z) (zeP mkI μ)) 0 0 4 [(0, .ref (Z.2.2.1 + t)), (1, .int (zi a1)), (2, .int (zi x2)), (3, .int (zi x3))] [] μ (k4 x2 x3)) (x2 : Int) (x3 : Int) (hx2 : zr x2) (hx3 : zr x3) : zG K Z (zΩ Z) (zF K Z (zΩ Z) (zeP mkI μ)) 0 0 4 [(0, .ref (Z.2.2.1 + t)), (1, .int (zi a1)), (2, .int (zi x2)), (3, .int (zi x3))] [] μ (f2_countOf_4 t a1 μ k4 x2 x3) := by
  obtain ⟨hK, hex⟩ := id hcx
  unfold f2_countOf_4
  refine g_iload_n hK 3 rfl rfl d2_countOf_4 ?_
  refine g_aload_n hK 0 rfl rfl d2_countOf_5 ?_
  refine g_getI hK zfin_2 (fa_2_2 ht) q_50 d2_countOf_6 (fun hf1 => ?_)
  refine g_icmp_ge hK hx3 hf1 (tgt := 31) (by decide) d2_countOf_9 (fun _ => ?_) (fun _ => ?_)
  · refine g_iload_n hK 2 rfl rfl d2_countOf_31 ?_
    exact g_iret hK hx2 rfl rfl d2_countOf_32
  · refine g_aload_n hK 0 rfl rfl d2_countOf_12 ?_
    refine g_getR hK zfin_2 (fa_2_4 ht) q_57 (pt_2_fields ht) d2_countOf_13 ?_
    refine g_iload_n hK 3 rfl rfl d2_countOf_16 ?_
    refine g_iald hK (pt_2_fields_k ht) d2_countOf_17 (fun _ hl1 => ?_)
    refine g_iload_n hK 1 rfl rfl d2_countOf_18 ?_
    refine g_icmp_ne hK hl1 ha1 (tgt := 25) (by decide) d2_countOf_19 (fun _ => ?_) (fun _ => ?_)
    · refine g_iinc hK (lv2 := fun v1 => [(0, .ref (Z.2.2.1 + t)), (1, .int (zi a1)), (2, .int (zi x2)), (3, .int (zi v1))]) 3 rfl [1, 2, 3, 0] (fun _ => rfl) (by decide) d2_countOf_25 (fun v1 hv1 => ?_)
      refine g_goto hK (tgt := 4) (by decide) d2_countOf_28 ?_
      exact hk4 x2 v1  hx2 hv1
    · refine g_iinc hK (lv2 := fun v2 => [(0, .ref (Z.2.2.1 + t)), (1, .int (zi a1)), (2, .int (zi v2)), (3, .int (zi x3))]) 2 rfl [1, 2, 0, 3] (fun _ => rfl) (by decide) d2_countOf_22 (fun v2 hv2 => ?_)
      refine g_iinc hK (lv2 := fun v3 => [(0, .ref (Z.2.2.1 + t)), (1, .int (zi a1)), (2, .int (zi v2)), (3, .int (zi v3))]) 3 rfl [1, 2, 3, 0] (fun _ => rfl) (by decide) d2_countOf_25 (fun v3 hv3 => ?_)
      refine g_goto hK (tgt := 4) (by decide) d2_countOf_28 ?_
      exact hk4 v2 v3  hv2 hv3
set_option maxRecDepth 20000 in
theorem l2_countOf_4 {K : zK} {Z : zZ} (hcx : zOk K Z b2_countOf RX2 4 (some .int) 0 8 0 0 ∧ ∀ x ∈ K.2.2.2.2.2.2.2.2.2.exceptionTable.toList, False) (t : Nat) (a1 : Int) (μ : zM) (ht : zkd t = 2) (ha1 : zr a1) : ∀ (i9 : Nat) (x2 : Int) (x3 : Int) (hx2 : zr x2) (hx3 : zr x3), zG K Z (zΩ Z) (zF K Z (zΩ Z) (zeP mkI μ)) 0 0 4 [(0, .ref (Z.2.2.1 + t)), (1, .int (zi a1)), (2, .int (zi x2)), (3, .int (zi x3))] [] μ (zfx (f2_countOf_4 t a1 μ) (fun _ _ => none) i9 x2 x3) := by
  intro i9
  induction i9 with
  | zero => intro x2 x3 hx2 hx3; exact g_none
  | succ i9 ih => intro x2 x3 hx2 hx3; exact p2_countOf_4 hcx t a1 μ ht ha1  (zfx (f2_countOf_4 t a1 μ) (fun _ _ => none) i9) ih x2 x3 hx2 hx3
set_option maxRecDepth 20000 in
theorem c2_countOf (l : Launch) (hst : l.stackTraces = false) (Z : zZ) (t : Nat) (a1 : Int) (μ : zM) (ht : zkd t = 2) (ha1 : zr a1) : ∀ x, f2_countOf t a1 μ = some x → zCt l Z (zΩ Z) y2_countOf (zws (.code y2_countOf b2_countOf 4 (some .int))) rm2_countOf [.ref (Z.2.2.1 + t), .int (zi a1)] μ (zeP mkI μ x) := by
  intro x h
  refine zCt.of (enc := (zeP mkI μ)) h (by decide) hst (Nat.le_of_ble_eq_true rfl) (fun K hK0 hex hl _ => ?_)
  subst hl
  have hcx : zOk K Z b2_countOf RX2 4 (some .int) 0 8 0 0 ∧ ∀ x ∈ K.2.2.2.2.2.2.2.2.2.exceptionTable.toList, False := ⟨hK0, hex⟩
  have hK := hcx.1
  show zG K Z (zΩ Z) (zF K Z (zΩ Z) (zeP mkI μ)) 0 0 0 [(0, .ref (Z.2.2.1 + t)), (1, .int (zi a1))] [] μ (f2_countOf t a1 μ)
  unfold f2_countOf
  refine g_iconst hK d2_countOf_0 zki0 ?_
  refine g_istore_n hK (lv2 := [(0, .ref (Z.2.2.1 + t)), (1, .int (zi a1)), (2, .int (zi 0))]) [1, 2, 0] rfl rfl (by decide) d2_countOf_1 ?_
  refine g_iconst hK d2_countOf_2 zki0 ?_
  refine g_istore_n hK (lv2 := [(0, .ref (Z.2.2.1 + t)), (1, .int (zi a1)), (2, .int (zi 0)), (3, .int (zi 0))]) [1, 2, 3, 0] rfl rfl (by decide) d2_countOf_3 ?_
  exact l2_countOf_4 hcx t a1 μ ht ha1  zFu 0 0  zc0 zc0
