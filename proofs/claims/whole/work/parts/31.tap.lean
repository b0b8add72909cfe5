set_option maxRecDepth 20000 in
theorem c3_clear (l : Launch) (hst : l.stackTraces = false) (Z : zZ) (t : Nat) (a1 : Int) (μ : zM) (ht : zkd t = 3) (ha1 : zr a1) : ∀ x, f3_clear t a1 μ = some x → zCt l Z (zΩ Z) y3_clear (zws (.code y3_clear b3_clear 2 (none))) rm3_clear [.ref (Z.2.2.1 + t), .int (zi a1)] μ (zeM x) := by
  intro x h
  refine zCt.of (enc := zeM) h (by decide) hst (Nat.le_of_ble_eq_true rfl) (fun K hK0 hex hl _ => ?_)
  subst hl
  have hcx : zOk K Z b3_clear RX3 2 (none) 0 8 0 0 ∧ ∀ x ∈ K.2.2.2.2.2.2.2.2.2.exceptionTable.toList, False := ⟨hK0, hex⟩
  have hK := hcx.1
  show zG K Z (zΩ Z) (zF K Z (zΩ Z) zeM) 0 0 0 [(0, .ref (Z.2.2.1 + t)), (1, .int (zi a1))] [] μ (f3_clear t a1 μ)
  unfold f3_clear
  refine g_aload_n hK 0 rfl rfl d3_clear_0 ?_
  refine g_iload_n hK 1 rfl rfl d3_clear_1 ?_
  refine g_putZ hK zfin_3 (fa_3_0 ht) q_183 rfl (tyX3_ok 0 (by decide)) tyX3 tyX3_ok nmX3 d3_clear_2 ?_
  refine g_ltM (fun m1 => ?_)
  refine g_aload_n hK 0 rfl rfl d3_clear_5 ?_
  refine g_iconst hK d3_clear_6 zki0 ?_
  refine g_putI hK zfin_3 (fa_3_1 ht) q_185 zc0 rfl (tyX3_ok 1 (by decide)) tyX3 tyX3_ok nmX3 d3_clear_7 ?_
  refine g_ltM (fun m2 => ?_)
  refine g_aload_n hK 0 rfl rfl d3_clear_10 ?_
  refine g_iconst hK d3_clear_11 zki0 ?_
  refine g_putI hK zfin_3 (fa_3_8 ht) q_199 zc0 rfl (tyX3_ok 8 (by decide)) tyX3 tyX3_ok nmX3 d3_clear_12 ?_
  refine g_ltM (fun m3 => ?_)
  exact g_vret hK rfl rfl d3_clear_15
set_option maxRecDepth 20000 in
theorem c3_copyFrom (l : Launch) (hst : l.stackTraces = false) (Z : zZ) (t : Nat) (a1 : Nat) (μ : zM) (ht : zkd t = 3) (ha1 : zkd a1 = 3) : ∀ x, f3_copyFrom t a1 μ = some x → zCt l Z (zΩ Z) y3_copyFrom (zws (.code y3_copyFrom b3_copyFrom 2 (none))) rm3_copyFrom [.ref (Z.2.2.1 + t), .ref (Z.2.2.1 + a1)] μ (zeM x) := by
  intro x h
  refine zCt.of (enc := zeM) h (by decide) hst (Nat.le_of_ble_eq_true rfl) (fun K hK0 hex hl _ => ?_)
  subst hl
  have hcx : zOk K Z b3_copyFrom RX3 2 (none) 1 60 0 0 ∧ ∀ x ∈ K.2.2.2.2.2.2.2.2.2.exceptionTable.toList, False := ⟨hK0, hex⟩
  have hK := hcx.1
  show zG K Z (zΩ Z) (zF K Z (zΩ Z) zeM) 0 0 0 [(0, .ref (Z.2.2.1 + t)), (1, .ref (Z.2.2.1 + a1))] [] μ (f3_copyFrom t a1 μ)
  unfold f3_copyFrom
  refine g_aload_n hK 0 rfl rfl d3_copyFrom_0 ?_
  refine g_aload_n hK 1 rfl rfl d3_copyFrom_1 ?_
  refine g_getI hK zfin_3 (fa_3_0 ha1) q_183 d3_copyFrom_2 (fun hf1 => ?_)
  refine g_putZ hK zfin_3 (fa_3_0 ht) q_183 rfl (tyX3_ok 0 (by decide)) tyX3 tyX3_ok nmX3 d3_copyFrom_5 ?_
  refine g_ltM (fun m1 => ?_)
  refine g_aload_n hK 0 rfl rfl d3_copyFrom_8 ?_
  refine g_aload_n hK 1 rfl rfl d3_copyFrom_9 ?_
  refine g_getI hK zfin_3 (fa_3_1 ha1) q_185 d3_copyFrom_10 (fun hf2 => ?_)
  refine g_putI hK zfin_3 (fa_3_1 ht) q_185 hf2 rfl (tyX3_ok 1 (by decide)) tyX3 tyX3_ok nmX3 d3_copyFrom_13 ?_
  refine g_ltM (fun m2 => ?_)
  refine g_aload_n hK 0 rfl rfl d3_copyFrom_16 ?_
  refine g_aload_n hK 1 rfl rfl d3_copyFrom_17 ?_
  refine g_getI hK zfin_3 (fa_3_8 ha1) q_199 d3_copyFrom_18 (fun hf3 => ?_)
  refine g_putI hK zfin_3 (fa_3_8 ht) q_199 hf3 rfl (tyX3_ok 8 (by decide)) tyX3 tyX3_ok nmX3 d3_copyFrom_21 ?_
  refine g_ltM (fun m3 => ?_)
  refine g_aload_n hK 1 rfl rfl d3_copyFrom_24 ?_
  refine g_getR hK zfin_3 (fa_3_2 ha1) q_187 (pt_3_snippets ha1) d3_copyFrom_25 ?_
  refine g_iconst hK d3_copyFrom_28 zki0 ?_
  refine g_aload_n hK 0 rfl rfl d3_copyFrom_29 ?_
  refine g_getR hK zfin_3 (fa_3_2 ht) q_187 (pt_3_snippets ht) d3_copyFrom_30 ?_
  refine g_iconst hK d3_copyFrom_33 zki0 ?_
  refine g_aload_n hK 0 rfl rfl d3_copyFrom_34 ?_
  refine g_getI hK zfin_3 (fa_3_1 ht) q_185 d3_copyFrom_35 (fun hf4 => ?_)
  refine g_acopy hK q_598 q_531 q_530 q_20 (pt_3_snippets_k ha1) (pt_3_snippets_k ht) (by decide) (Nat.le_of_ble_eq_true (by decide +kernel)) d3_copyFrom_38 (fun _ => ?_)
  refine g_ltM (fun m4 => ?_)
  refine g_aload_n hK 1 rfl rfl d3_copyFrom_41 ?_
  refine g_getR hK zfin_3 (fa_3_3 ha1) q_189 (pt_3_currents ha1) d3_copyFrom_42 ?_
  refine g_iconst hK d3_copyFrom_45 zki0 ?_
  refine g_aload_n hK 0 rfl rfl d3_copyFrom_46 ?_
  refine g_getR hK zfin_3 (fa_3_3 ht) q_189 (pt_3_currents ht) d3_copyFrom_47 ?_
  refine g_iconst hK d3_copyFrom_50 zki0 ?_
  refine g_aload_n hK 0 rfl rfl d3_copyFrom_51 ?_
  refine g_getI hK zfin_3 (fa_3_1 ht) q_185 d3_copyFrom_52 (fun hf5 => ?_)
  refine g_acopy hK q_598 q_531 q_530 q_20 (pt_3_currents_k ha1) (pt_3_currents_k ht) (by decide) (Nat.le_of_ble_eq_true (by decide +kernel)) d3_copyFrom_55 (fun _ => ?_)
  refine g_ltM (fun m5 => ?_)
  refine g_aload_n hK 1 rfl rfl d3_copyFrom_58 ?_
  refine g_getR hK zfin_3 (fa_3_4 ha1) q_191 (pt_3_typedSets ha1) d3_copyFrom_59 ?_
  refine g_iconst hK d3_copyFrom_62 zki0 ?_
  refine g_aload_n hK 0 rfl rfl d3_copyFrom_63 ?_
  refine g_getR hK zfin_3 (fa_3_4 ht) q_191 (pt_3_typedSets ht) d3_copyFrom_64 ?_
  refine g_iconst hK d3_copyFrom_67 zki0 ?_
  refine g_aload_n hK 0 rfl rfl d3_copyFrom_68 ?_
  refine g_getI hK zfin_3 (fa_3_1 ht) q_185 d3_copyFrom_69 (fun hf6 => ?_)
  refine g_acopy hK q_598 q_531 q_530 q_20 (pt_3_typedSets_k ha1) (pt_3_typedSets_k ht) (by decide) (Nat.le_of_ble_eq_true (by decide +kernel)) d3_copyFrom_72 (fun _ => ?_)
  refine g_ltM (fun m6 => ?_)
  refine g_aload_n hK 1 rfl rfl d3_copyFrom_75 ?_
  refine g_getR hK zfin_3 (fa_3_5 ha1) q_194 (pt_3_typedLengths ha1) d3_copyFrom_76 ?_
  refine g_iconst hK d3_copyFrom_79 zki0 ?_
  refine g_aload_n hK 0 rfl rfl d3_copyFrom_80 ?_
  refine g_getR hK zfin_3 (fa_3_5 ht) q_194 (pt_3_typedLengths ht) d3_copyFrom_81 ?_
  refine g_iconst hK d3_copyFrom_84 zki0 ?_
  refine g_aload_n hK 0 rfl rfl d3_copyFrom_85 ?_
  refine g_getI hK zfin_3 (fa_3_1 ht) q_185 d3_copyFrom_86 (fun hf7 => ?_)
  refine g_bipush hK d3_copyFrom_89 zkb10 ?_
  refine g_imul hK d3_copyFrom_91 (fun v1 hv1 => ?_)
  refine g_acopy hK q_598 q_531 q_530 q_20 (pt_3_typedLengths_k ha1) (pt_3_typedLengths_k ht) (by decide) (Nat.le_of_ble_eq_true (by decide +kernel)) d3_copyFrom_92 (fun _ => ?_)
  refine g_ltM (fun m7 => ?_)
  refine g_aload_n hK 1 rfl rfl d3_copyFrom_95 ?_
  refine g_getR hK zfin_3 (fa_3_6 ha1) q_195 (pt_3_typedTexts ha1) d3_copyFrom_96 ?_
  refine g_iconst hK d3_copyFrom_99 zki0 ?_
  refine g_aload_n hK 0 rfl rfl d3_copyFrom_100 ?_
  refine g_getR hK zfin_3 (fa_3_6 ht) q_195 (pt_3_typedTexts ht) d3_copyFrom_101 ?_
  refine g_iconst hK d3_copyFrom_104 zki0 ?_
  refine g_aload_n hK 0 rfl rfl d3_copyFrom_105 ?_
  refine g_getI hK zfin_3 (fa_3_1 ht) q_185 d3_copyFrom_106 (fun hf8 => ?_)
  refine g_bipush hK d3_copyFrom_109 zkb10 ?_
  refine g_imul hK d3_copyFrom_111 (fun v2 hv2 => ?_)
  refine g_bipush hK d3_copyFrom_112 zkb40 ?_
  refine g_imul hK d3_copyFrom_114 (fun v3 hv3 => ?_)
  refine g_acopy hK q_598 q_531 q_530 q_20 (pt_3_typedTexts_k ha1) (pt_3_typedTexts_k ht) (by decide) (Nat.le_of_ble_eq_true (by decide +kernel)) d3_copyFrom_115 (fun _ => ?_)
  refine g_ltM (fun m8 => ?_)
  refine g_aload_n hK 1 rfl rfl d3_copyFrom_118 ?_
  refine g_getR hK zfin_3 (fa_3_7 ha1) q_197 (pt_3_document ha1) d3_copyFrom_119 ?_
  refine g_iconst hK d3_copyFrom_122 zki0 ?_
  refine g_aload_n hK 0 rfl rfl d3_copyFrom_123 ?_
  refine g_getR hK zfin_3 (fa_3_7 ht) q_197 (pt_3_document ht) d3_copyFrom_124 ?_
  refine g_iconst hK d3_copyFrom_127 zki0 ?_
  refine g_aload_n hK 0 rfl rfl d3_copyFrom_128 ?_
  refine g_getI hK zfin_3 (fa_3_8 ht) q_199 d3_copyFrom_129 (fun hf9 => ?_)
  refine g_acopy hK q_598 q_531 q_530 q_20 (pt_3_document_k ha1) (pt_3_document_k ht) (by decide) (Nat.le_of_ble_eq_true (by decide +kernel)) d3_copyFrom_132 (fun _ => ?_)
  refine g_ltM (fun m9 => ?_)
  exact g_vret hK rfl rfl d3_copyFrom_135
set_option maxRecDepth 20000 in
theorem p3_push_41 {K : zK} {Z : zZ} (hcx : zOk K Z b3_push RX3 4 (none) 0 8 0 0 ∧ ∀ x ∈ K.2.2.2.2.2.2.2.2.2.exceptionTable.toList, False) (t : Nat) (a1 : Int) (a2 : Int) (ht : zkd t = 3) (ha1 : zr a1) (ha2 : zr a2) (k41 : Int → zM → Option zM) (hk41 : ∀ (x3 : Int) (μ : zM) (hx3 : zr x3), zG K Z (zΩ Z) (zF K Z (zΩ Z) zeM) 0 0 41 [(0, .ref (Z.2.2.1 + t)), (3, .int (zi x3))] [] μ (k41 x3 μ)) (x3 : Int) (μ : zM) (hx3 : zr x3) : zG K Z (zΩ Z) (zF K Z (zΩ Z) zeM) 0 0 41 [(0, .ref (Z.2.2.1 + t)), (3, .int (zi x3))] [] μ (f3_push_41 t a1 a2 k41 x3 μ) := by
  obtain ⟨hK, hex⟩ := id hcx
  unfold f3_push_41
  refine g_iload_n hK 1 rfl rfl d3_push_41 ?_
  refine g_bipush hK d3_push_42 zkb10 ?_
  refine g_icmp_ge hK hx3 zc10 (tgt := 68) (by decide) d3_push_44 (fun _ => ?_) (fun _ => ?_)
  · refine g_aload_n hK 0 rfl rfl d3_push_68 ?_
    refine g_dup hK d3_push_69 rfl ?_
    refine g_getI hK zfin_3 (fa_3_1 ht) q_185 d3_push_70 (fun hf5 => ?_)
    refine g_iconst hK d3_push_73 zki1 ?_
    refine g_iadd hK d3_push_74 (fun v1 hv1 => ?_)
    refine g_putI hK zfin_3 (fa_3_1 ht) q_185 hv1 rfl (tyX3_ok 1 (by decide)) tyX3 tyX3_ok nmX3 d3_push_75 ?_
    refine g_ltM (fun m4 => ?_)
    exact g_vret hK rfl rfl d3_push_78
  · refine g_aload_n hK 0 rfl rfl d3_push_47 ?_
    refine g_getR hK zfin_3 (fa_3_5 ht) q_194 (pt_3_typedLengths ht) d3_push_48 ?_
    refine g_aload_n hK 0 rfl rfl d3_push_51 ?_
    refine g_getI hK zfin_3 (fa_3_1 ht) q_185 d3_push_52 (fun hf6 => ?_)
    refine g_bipush hK d3_push_55 zkb10 ?_
    refine g_imul hK d3_push_57 (fun v2 hv2 => ?_)
    refine g_iload_n hK 1 rfl rfl d3_push_58 ?_
    refine g_iadd hK d3_push_59 (fun v3 hv3 => ?_)
    refine g_iconst hK d3_push_60 zki0 ?_
    refine g_iast hK zc0 (pt_3_typedLengths_k ht) d3_push_61 (fun _ => ?_)
    refine g_ltM (fun m5 => ?_)
    refine g_iinc hK (lv2 := fun v4 => [(0, .ref (Z.2.2.1 + t)), (3, .int (zi v4))]) 1 rfl [1, 0] (fun _ => rfl) (by decide) d3_push_62 (fun v4 hv4 => ?_)
    refine g_goto hK (tgt := 41) (by decide) d3_push_65 ?_
    exact hk41 v4 m5 hv4
set_option maxRecDepth 20000 in
theorem l3_push_41 {K : zK} {Z : zZ} (hcx : zOk K Z b3_push RX3 4 (none) 0 8 0 0 ∧ ∀ x ∈ K.2.2.2.2.2.2.2.2.2.exceptionTable.toList, False) (t : Nat) (a1 : Int) (a2 : Int) (ht : zkd t = 3) (ha1 : zr a1) (ha2 : zr a2) : ∀ (i9 : Nat) (x3 : Int) (μ : zM) (hx3 : zr x3), zG K Z (zΩ Z) (zF K Z (zΩ Z) zeM) 0 0 41 [(0, .ref (Z.2.2.1 + t)), (3, .int (zi x3))] [] μ (zfx (f3_push_41 t a1 a2) (fun _ _ => none) i9 x3 μ) := by
  intro i9
  induction i9 with
  | zero => intro x3 μ hx3; exact g_none
  | succ i9 ih => intro x3 μ hx3; exact p3_push_41 hcx t a1 a2 ht ha1 ha2  (zfx (f3_push_41 t a1 a2) (fun _ _ => none) i9) ih x3 μ hx3
set_option maxRecDepth 20000 in
theorem c3_push (l : Launch) (hst : l.stackTraces = false) (Z : zZ) (t : Nat) (a1 : Int) (a2 : Int) (μ : zM) (ht : zkd t = 3) (ha1 : zr a1) (ha2 : zr a2) : ∀ x, f3_push t a1 a2 μ = some x → zCt l Z (zΩ Z) y3_push (zws (.code y3_push b3_push 4 (none))) rm3_push [.ref (Z.2.2.1 + t), .int (zi a1), .int (zi a2)] μ (zeM x) := by
  intro x h
  refine zCt.of (enc := zeM) h (by decide) hst (Nat.le_of_ble_eq_true rfl) (fun K hK0 hex hl _ => ?_)
  subst hl
  have hcx : zOk K Z b3_push RX3 4 (none) 0 8 0 0 ∧ ∀ x ∈ K.2.2.2.2.2.2.2.2.2.exceptionTable.toList, False := ⟨hK0, hex⟩
  have hK := hcx.1
  show zG K Z (zΩ Z) (zF K Z (zΩ Z) zeM) 0 0 0 [(0, .ref (Z.2.2.1 + t)), (1, .int (zi a1)), (2, .int (zi a2))] [] μ (f3_push t a1 a2 μ)
  unfold f3_push
  refine g_aload_n hK 0 rfl rfl d3_push_0 ?_
  refine g_getI hK zfin_3 (fa_3_1 ht) q_185 d3_push_1 (fun hf1 => ?_)
  refine g_iconst hK d3_push_4 zki4 ?_
  refine g_icmp_lt hK hf1 zc4 (tgt := 9) (by decide) d3_push_5 (fun _ => ?_) (fun _ => ?_)
  · refine g_aload_n hK 0 rfl rfl d3_push_9 ?_
    refine g_getR hK zfin_3 (fa_3_2 ht) q_187 (pt_3_snippets ht) d3_push_10 ?_
    refine g_aload_n hK 0 rfl rfl d3_push_13 ?_
    refine g_getI hK zfin_3 (fa_3_1 ht) q_185 d3_push_14 (fun hf2 => ?_)
    refine g_iload_n hK 1 rfl rfl d3_push_17 ?_
    refine g_iast hK ha1 (pt_3_snippets_k ht) d3_push_18 (fun _ => ?_)
    refine g_ltM (fun m1 => ?_)
    refine g_aload_n hK 0 rfl rfl d3_push_19 ?_
    refine g_getR hK zfin_3 (fa_3_3 ht) q_189 (pt_3_currents ht) d3_push_20 ?_
    refine g_aload_n hK 0 rfl rfl d3_push_23 ?_
    refine g_getI hK zfin_3 (fa_3_1 ht) q_185 d3_push_24 (fun hf3 => ?_)
    refine g_iload_n hK 2 rfl rfl d3_push_27 ?_
    refine g_iast hK ha2 (pt_3_currents_k ht) d3_push_28 (fun _ => ?_)
    refine g_ltM (fun m2 => ?_)
    refine g_aload_n hK 0 rfl rfl d3_push_29 ?_
    refine g_getR hK zfin_3 (fa_3_4 ht) q_191 (pt_3_typedSets ht) d3_push_30 ?_
    refine g_aload_n hK 0 rfl rfl d3_push_33 ?_
    refine g_getI hK zfin_3 (fa_3_1 ht) q_185 d3_push_34 (fun hf4 => ?_)
    refine g_iconst hK d3_push_37 zki0 ?_
    refine g_iast hK zc0 (pt_3_typedSets_k ht) d3_push_38 (fun _ => ?_)
    refine g_ltM (fun m3 => ?_)
    refine g_iconst hK d3_push_39 zki0 ?_
    refine g_istore_n hK (lv2 := [(0, .ref (Z.2.2.1 + t)), (1, .int (zi a1)), (2, .int (zi a2)), (3, .int (zi 0))]) [1, 2, 3, 0] rfl rfl (by decide) d3_push_40 ?_
    refine g_lv (lv2 := [(0, .ref (Z.2.2.1 + t)), (3, .int (zi 0))]) [0, 3] rfl ?_
    exact l3_push_41 hcx t a1 a2 ht ha1 ha2  zFu 0 m3 zc0
  · exact g_vret hK rfl rfl d3_push_8
set_option maxRecDepth 20000 in
theorem c3_isTyped (l : Launch) (hst : l.stackTraces = false) (Z : zZ) (t : Nat) (a1 : Int) (a2 : Int) (μ : zM) (ht : zkd t = 3) (ha1 : zr a1) (ha2 : zr a2) : ∀ x, f3_isTyped t a1 a2 μ = some x → zCt l Z (zΩ Z) y3_isTyped (zws (.code y3_isTyped b3_isTyped 3 (some .boolean))) rm3_isTyped [.ref (Z.2.2.1 + t), .int (zi a1), .int (zi a2)] μ (zeP mkZ μ x) := by
  intro x h
  refine zCt.of (enc := (zeP mkZ μ)) h (by decide) hst (Nat.le_of_ble_eq_true rfl) (fun K hK0 hex hl _ => ?_)
  subst hl
  have hcx : zOk K Z b3_isTyped RX3 3 (some .boolean) 0 8 0 0 ∧ ∀ x ∈ K.2.2.2.2.2.2.2.2.2.exceptionTable.toList, False := ⟨hK0, hex⟩
  have hK := hcx.1
  show zG K Z (zΩ Z) (zF K Z (zΩ Z) (zeP mkZ μ)) 0 0 0 [(0, .ref (Z.2.2.1 + t)), (1, .int (zi a1)), (2, .int (zi a2))] [] μ (f3_isTyped t a1 a2 μ)
  unfold f3_isTyped
  refine g_aload_n hK 0 rfl rfl d3_isTyped_0 ?_
  refine g_getR hK zfin_3 (fa_3_4 ht) q_191 (pt_3_typedSets ht) d3_isTyped_1 ?_
  refine g_iload_n hK 1 rfl rfl d3_isTyped_4 ?_
  refine g_iald hK (pt_3_typedSets_k ht) d3_isTyped_5 (fun _ hl1 => ?_)
  refine g_iload_n hK 2 rfl rfl d3_isTyped_6 ?_
  refine g_ishr hK d3_isTyped_7 (fun v1 hv1 => ?_)
  refine g_iconst hK d3_isTyped_8 zki1 ?_
  refine g_iand hK d3_isTyped_9 (fun v2 hv2 => ?_)
  refine g_if_eq hK hv2 (tgt := 17) (by decide) d3_isTyped_10 (fun _ => ?_) (fun _ => ?_)
  · refine g_iconst hK d3_isTyped_17 zki0 ?_
    exact g_zret hK (by decide) rfl rfl d3_isTyped_18
  · refine g_iconst hK d3_isTyped_13 zki1 ?_
    refine g_goto hK (tgt := 18) (by decide) d3_isTyped_14 ?_
    exact g_zret hK (by decide) rfl rfl d3_isTyped_18
set_option maxRecDepth 20000 in
theorem c3_typedLength (l : Launch) (hst : l.stackTraces = false) (Z : zZ) (t : Nat) (a1 : Int) (a2 : Int) (μ : zM) (ht : zkd t = 3) (ha1 : zr a1) (ha2 : zr a2) : ∀ x, f3_typedLength t a1 a2 μ = some x → zCt l Z (zΩ Z) y3_typedLength (zws (.code y3_typedLength b3_typedLength 3 (some .int))) rm3_typedLength [.ref (Z.2.2.1 + t), .int (zi a1), .int (zi a2)] μ (zeP mkI μ x) := by
  intro x h
  refine zCt.of (enc := (zeP mkI μ)) h (by decide) hst (Nat.le_of_ble_eq_true rfl) (fun K hK0 hex hl _ => ?_)
  subst hl
  have hcx : zOk K Z b3_typedLength RX3 3 (some .int) 0 8 0 0 ∧ ∀ x ∈ K.2.2.2.2.2.2.2.2.2.exceptionTable.toList, False := ⟨hK0, hex⟩
  have hK := hcx.1
  show zG K Z (zΩ Z) (zF K Z (zΩ Z) (zeP mkI μ)) 0 0 0 [(0, .ref (Z.2.2.1 + t)), (1, .int (zi a1)), (2, .int (zi a2))] [] μ (f3_typedLength t a1 a2 μ)
  unfold f3_typedLength
  refine g_aload_n hK 0 rfl rfl d3_typedLength_0 ?_
  refine g_getR hK zfin_3 (fa_3_5 ht) q_194 (pt_3_typedLengths ht) d3_typedLength_1 ?_
  refine g_iload_n hK 1 rfl rfl d3_typedLength_4 ?_
  refine g_bipush hK d3_typedLength_5 zkb10 ?_
  refine g_imul hK d3_typedLength_7 (fun v1 hv1 => ?_)
  refine g_iload_n hK 2 rfl rfl d3_typedLength_8 ?_
  refine g_iadd hK d3_typedLength_9 (fun v2 hv2 => ?_)
  refine g_iald hK (pt_3_typedLengths_k ht) d3_typedLength_10 (fun _ hl1 => ?_)
  exact g_iret hK hl1 rfl rfl d3_typedLength_11
set_option maxRecDepth 20000 in
theorem c3_makeNotTyped (l : Launch) (hst : l.stackTraces = false) (Z : zZ) (t : Nat) (a1 : Int) (a2 : Int) (μ : zM) (ht : zkd t = 3) (ha1 : zr a1) (ha2 : zr a2) : ∀ x, f3_makeNotTyped t a1 a2 μ = some x → zCt l Z (zΩ Z) y3_makeNotTyped (zws (.code y3_makeNotTyped b3_makeNotTyped 3 (none))) rm3_makeNotTyped [.ref (Z.2.2.1 + t), .int (zi a1), .int (zi a2)] μ (zeM x) := by
  intro x h
  refine zCt.of (enc := zeM) h (by decide) hst (Nat.le_of_ble_eq_true rfl) (fun K hK0 hex hl _ => ?_)
  subst hl
  have hcx : zOk K Z b3_makeNotTyped RX3 3 (none) 0 8 0 0 ∧ ∀ x ∈ K.2.2.2.2.2.2.2.2.2.exceptionTable.toList, False := ⟨hK0, hex⟩
  have hK := hcx.1
  show zG K Z (zΩ Z) (zF K Z (zΩ Z) zeM) 0 0 0 [(0, .ref (Z.2.2.1 + t)), (1, .int (zi a1)), (2, .int (zi a2))] [] μ (f3_makeNotTyped t a1 a2 μ)
  unfold f3_makeNotTyped
  refine g_aload_n hK 0 rfl rfl d3_makeNotTyped_0 ?_
  refine g_getR hK zfin_3 (fa_3_4 ht) q_191 (pt_3_typedSets ht) d3_makeNotTyped_1 ?_
  refine g_iload_n hK 1 rfl rfl d3_makeNotTyped_4 ?_
  refine g_dup2 hK d3_makeNotTyped_5 rfl rfl ?_
  refine g_iald hK (pt_3_typedSets_k ht) d3_makeNotTyped_6 (fun _ hl1 => ?_)
  refine g_iconst hK d3_makeNotTyped_7 zki1 ?_
  refine g_iload_n hK 2 rfl rfl d3_makeNotTyped_8 ?_
  refine g_ishl hK d3_makeNotTyped_9 (fun v1 hv1 => ?_)
  refine g_iconst hK d3_makeNotTyped_10 zkim1 ?_
  refine g_ixor hK d3_makeNotTyped_11 (fun v2 hv2 => ?_)
  refine g_iand hK d3_makeNotTyped_12 (fun v3 hv3 => ?_)
  refine g_iast hK hv3 (pt_3_typedSets_k ht) d3_makeNotTyped_13 (fun _ => ?_)
  refine g_ltM (fun m1 => ?_)
  refine g_aload_n hK 0 rfl rfl d3_makeNotTyped_14 ?_
  refine g_getR hK zfin_3 (fa_3_5 ht) q_194 (pt_3_typedLengths ht) d3_makeNotTyped_15 ?_
  refine g_iload_n hK 1 rfl rfl d3_makeNotTyped_18 ?_
  refine g_bipush hK d3_makeNotTyped_19 zkb10 ?_
  refine g_imul hK d3_makeNotTyped_21 (fun v4 hv4 => ?_)
  refine g_iload_n hK 2 rfl rfl d3_makeNotTyped_22 ?_
  refine g_iadd hK d3_makeNotTyped_23 (fun v5 hv5 => ?_)
  refine g_iconst hK d3_makeNotTyped_24 zki0 ?_
  refine g_iast hK zc0 (pt_3_typedLengths_k ht) d3_makeNotTyped_25 (fun _ => ?_)
  refine g_ltM (fun m2 => ?_)
  exact g_vret hK rfl rfl d3_makeNotTyped_26
set_option maxRecDepth 20000 in
theorem c3_typeBehind (l : Launch) (hst : l.stackTraces = false) (Z : zZ) (t : Nat) (a1 : Int) (a2 : Int) (a3 : Nat) (a4 : Int) (a5 : Int) (μ : zM) (ht : zkd t = 3) (ha1 : zr a1) (ha2 : zr a2) (ha3 : zkd a3 = 100) (ha4 : zr a4) (ha5 : zr a5) : ∀ x, f3_typeBehind t a1 a2 a3 a4 a5 μ = some x → zCt l Z (zΩ Z) y3_typeBehind (zws (.code y3_typeBehind b3_typeBehind 9 (none))) rm3_typeBehind [.ref (Z.2.2.1 + t), .int (zi a1), .int (zi a2), .ref (Z.2.2.1 + a3), .int (zi a4), .int (zi a5)] μ (zeM x) := by
  intro x h
  refine zCt.of (enc := zeM) h (by decide) hst (Nat.le_of_ble_eq_true rfl) (fun K hK0 hex hl _ => ?_)
  subst hl
  have hcx : zOk K Z b3_typeBehind RX3 9 (none) 1 60 0 0 ∧ ∀ x ∈ K.2.2.2.2.2.2.2.2.2.exceptionTable.toList, False := ⟨hK0, hex⟩
  have hK := hcx.1
  show zG K Z (zΩ Z) (zF K Z (zΩ Z) zeM) 0 0 0 [(0, .ref (Z.2.2.1 + t)), (1, .int (zi a1)), (2, .int (zi a2)), (3, .ref (Z.2.2.1 + a3)), (4, .int (zi a4)), (5, .int (zi a5))] [] μ (f3_typeBehind t a1 a2 a3 a4 a5 μ)
  unfold f3_typeBehind
  refine g_iload_n hK 1 rfl rfl d3_typeBehind_0 ?_
  refine g_bipush hK d3_typeBehind_1 zkb10 ?_
  refine g_imul hK d3_typeBehind_3 (fun v1 hv1 => ?_)
  refine g_iload_n hK 2 rfl rfl d3_typeBehind_4 ?_
  refine g_iadd hK d3_typeBehind_5 (fun v2 hv2 => ?_)
  refine g_istore hK (lv2 := [(0, .ref (Z.2.2.1 + t)), (1, .int (zi a1)), (2, .int (zi a2)), (3, .ref (Z.2.2.1 + a3)), (4, .int (zi a4)), (5, .int (zi a5)), (6, .int (zi v2))]) [1, 2, 3, 4, 5, 6, 0] rfl (by decide) d3_typeBehind_6 ?_
  refine g_aload_n hK 0 rfl rfl d3_typeBehind_8 ?_
  refine g_getR hK zfin_3 (fa_3_5 ht) q_194 (pt_3_typedLengths ht) d3_typeBehind_9 ?_
  refine g_iload hK 6 rfl d3_typeBehind_12 ?_
  refine g_iald hK (pt_3_typedLengths_k ht) d3_typeBehind_14 (fun _ hl1 => ?_)
  refine g_ltI hl1 (fun v3 hv3 => ?_)
  refine g_istore hK (lv2 := [(0, .ref (Z.2.2.1 + t)), (1, .int (zi a1)), (2, .int (zi a2)), (3, .ref (Z.2.2.1 + a3)), (4, .int (zi a4)), (5, .int (zi a5)), (6, .int (zi v2)), (7, .int (zi v3))]) [1, 2, 3, 4, 5, 6, 7, 0] rfl (by decide) d3_typeBehind_15 ?_
  refine g_iload hK 5 rfl d3_typeBehind_17 ?_
  refine g_bipush hK d3_typeBehind_19 zkb40 ?_
  refine g_iload hK 7 rfl d3_typeBehind_21 ?_
  refine g_isub hK d3_typeBehind_23 (fun v4 hv4 => ?_)
  refine g_mmin hK ha5 hv4 q_638 q_333 q_13 q_334 (by decide) (Nat.le_of_ble_eq_true rfl) d3_typeBehind_24 (fun v5 hv5 => ?_)
  refine g_istore hK (lv2 := [(0, .ref (Z.2.2.1 + t)), (1, .int (zi a1)), (2, .int (zi a2)), (3, .ref (Z.2.2.1 + a3)), (4, .int (zi a4)), (5, .int (zi a5)), (6, .int (zi v2)), (7, .int (zi v3)), (8, .int (zi v5))]) [1, 2, 3, 4, 5, 6, 7, 8, 0] rfl (by decide) d3_typeBehind_27 ?_
  refine g_aload_n hK 3 rfl rfl d3_typeBehind_29 ?_
  refine g_iload hK 4 rfl d3_typeBehind_30 ?_
  refine g_aload_n hK 0 rfl rfl d3_typeBehind_32 ?_
  refine g_getR hK zfin_3 (fa_3_6 ht) q_195 (pt_3_typedTexts ht) d3_typeBehind_33 ?_
  refine g_iload hK 6 rfl d3_typeBehind_36 ?_
  refine g_bipush hK d3_typeBehind_38 zkb40 ?_
  refine g_imul hK d3_typeBehind_40 (fun v6 hv6 => ?_)
  refine g_iload hK 7 rfl d3_typeBehind_41 ?_
  refine g_iadd hK d3_typeBehind_43 (fun v7 hv7 => ?_)
  refine g_iload hK 8 rfl d3_typeBehind_44 ?_
  refine g_acopy hK q_598 q_531 q_530 q_20 ha3 (pt_3_typedTexts_k ht) (by decide) (Nat.le_of_ble_eq_true (by decide +kernel)) d3_typeBehind_46 (fun _ => ?_)
  refine g_ltM (fun m1 => ?_)
  refine g_aload_n hK 0 rfl rfl d3_typeBehind_49 ?_
  refine g_getR hK zfin_3 (fa_3_5 ht) q_194 (pt_3_typedLengths ht) d3_typeBehind_50 ?_
  refine g_iload hK 6 rfl d3_typeBehind_53 ?_
  refine g_iload hK 7 rfl d3_typeBehind_55 ?_
  refine g_iload hK 8 rfl d3_typeBehind_57 ?_
  refine g_iadd hK d3_typeBehind_59 (fun v8 hv8 => ?_)
  refine g_iast hK hv8 (pt_3_typedLengths_k ht) d3_typeBehind_60 (fun _ => ?_)
  refine g_ltM (fun m2 => ?_)
  refine g_aload_n hK 0 rfl rfl d3_typeBehind_61 ?_
  refine g_getR hK zfin_3 (fa_3_4 ht) q_191 (pt_3_typedSets ht) d3_typeBehind_62 ?_
  refine g_iload_n hK 1 rfl rfl d3_typeBehind_65 ?_
  refine g_dup2 hK d3_typeBehind_66 rfl rfl ?_
  refine g_iald hK (pt_3_typedSets_k ht) d3_typeBehind_67 (fun _ hl2 => ?_)
  refine g_iconst hK d3_typeBehind_68 zki1 ?_
  refine g_iload_n hK 2 rfl rfl d3_typeBehind_69 ?_
  refine g_ishl hK d3_typeBehind_70 (fun v9 hv9 => ?_)
  refine g_ior hK d3_typeBehind_71 (fun v10 hv10 => ?_)
  refine g_iast hK hv10 (pt_3_typedSets_k ht) d3_typeBehind_72 (fun _ => ?_)
  refine g_ltM (fun m3 => ?_)
  exact g_vret hK rfl rfl d3_typeBehind_73
set_option maxRecDepth 20000 in
theorem c3_appendToDocument (l : Launch) (hst : l.stackTraces = false) (Z : zZ) (t : Nat) (a1 : Nat) (a2 : Int) (μ : zM) (ht : zkd t = 3) (ha1 : zkd a1 = 100) (ha2 : zr a2) : ∀ x, f3_appendToDocument t a1 a2 μ = some x → zCt l Z (zΩ Z) y3_appendToDocument (zws (.code y3_appendToDocument b3_appendToDocument 4 (none))) rm3_appendToDocument [.ref (Z.2.2.1 + t), .ref (Z.2.2.1 + a1), .int (zi a2)] μ (zeM x) := by
  intro x h
  refine zCt.of (enc := zeM) h (by decide) hst (Nat.le_of_ble_eq_true rfl) (fun K hK0 hex hl _ => ?_)
  subst hl
  have hcx : zOk K Z b3_appendToDocument RX3 4 (none) 1 60 0 0 ∧ ∀ x ∈ K.2.2.2.2.2.2.2.2.2.exceptionTable.toList, False := ⟨hK0, hex⟩
  have hK := hcx.1
  show zG K Z (zΩ Z) (zF K Z (zΩ Z) zeM) 0 0 0 [(0, .ref (Z.2.2.1 + t)), (1, .ref (Z.2.2.1 + a1)), (2, .int (zi a2))] [] μ (f3_appendToDocument t a1 a2 μ)
  unfold f3_appendToDocument
  refine g_iload_n hK 2 rfl rfl d3_appendToDocument_0 ?_
  refine g_sipush hK d3_appendToDocument_1 zks600 ?_
  refine g_aload_n hK 0 rfl rfl d3_appendToDocument_4 ?_
  refine g_getI hK zfin_3 (fa_3_8 ht) q_199 d3_appendToDocument_5 (fun hf1 => ?_)
  refine g_isub hK d3_appendToDocument_8 (fun v1 hv1 => ?_)
  refine g_mmin hK ha2 hv1 q_638 q_333 q_13 q_334 (by decide) (Nat.le_of_ble_eq_true rfl) d3_appendToDocument_9 (fun v2 hv2 => ?_)
  refine g_istore_n hK (lv2 := [(0, .ref (Z.2.2.1 + t)), (1, .ref (Z.2.2.1 + a1)), (2, .int (zi a2)), (3, .int (zi v2))]) [1, 2, 3, 0] rfl rfl (by decide) d3_appendToDocument_12 ?_
  refine g_aload_n hK 1 rfl rfl d3_appendToDocument_13 ?_
  refine g_iconst hK d3_appendToDocument_14 zki0 ?_
  refine g_aload_n hK 0 rfl rfl d3_appendToDocument_15 ?_
  refine g_getR hK zfin_3 (fa_3_7 ht) q_197 (pt_3_document ht) d3_appendToDocument_16 ?_
  refine g_aload_n hK 0 rfl rfl d3_appendToDocument_19 ?_
  refine g_getI hK zfin_3 (fa_3_8 ht) q_199 d3_appendToDocument_20 (fun hf2 => ?_)
  refine g_iload_n hK 3 rfl rfl d3_appendToDocument_23 ?_
  refine g_acopy hK q_598 q_531 q_530 q_20 ha1 (pt_3_document_k ht) (by decide) (Nat.le_of_ble_eq_true (by decide +kernel)) d3_appendToDocument_24 (fun _ => ?_)
  refine g_ltM (fun m1 => ?_)
  refine g_aload_n hK 0 rfl rfl d3_appendToDocument_27 ?_
  refine g_dup hK d3_appendToDocument_28 rfl ?_
  refine g_getI hK zfin_3 (fa_3_8 ht) q_199 d3_appendToDocument_29 (fun hf3 => ?_)
  refine g_iload_n hK 3 rfl rfl d3_appendToDocument_32 ?_
  refine g_iadd hK d3_appendToDocument_33 (fun v3 hv3 => ?_)
  refine g_putI hK zfin_3 (fa_3_8 ht) q_199 hv3 rfl (tyX3_ok 8 (by decide)) tyX3 tyX3_ok nmX3 d3_appendToDocument_34 ?_
  refine g_ltM (fun m2 => ?_)
  exact g_vret hK rfl rfl d3_appendToDocument_37
