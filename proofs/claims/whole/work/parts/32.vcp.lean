set_option maxRecDepth 20000 in
theorem p4_renderPart_89 {K : zK} {Z : zZ} (hcx : zOk K Z b4_renderPart RX4 10 (none) 2 58 0 0 ∧ ∀ x ∈ K.2.2.2.2.2.2.2.2.2.exceptionTable.toList, False) (a1 : Int) (a2 : Nat) (a3 : Int) (ha1 : zr a1) (ha2 : zkd a2 = 100) (ha3 : zr a3) (k20 : Int → Int → Int → zM → Option zM) (hk20 : ∀ (x4 : Int) (x5 : Int) (x6 : Int) (μ : zM) (hx4 : zr x4) (hx5 : zr x5) (hx6 : zr x6), zG K Z (zΩ Z) (zF K Z (zΩ Z) zeM) 0 0 20 [(0, .ref (Z.2.2.1 + 200)), (1, .int (zi a1)), (2, .ref (Z.2.2.1 + a2)), (4, .int (zi x4)), (5, .int (zi x5)), (6, .int (zi x6))] [] μ (k20 x4 x5 x6 μ)) (k89 : Int → Int → Int → Int → Int → Int → zM → Option zM) (hk89 : ∀ (x4 : Int) (x5 : Int) (x6 : Int) (x7 : Int) (x8 : Int) (x9 : Int) (μ : zM) (hx4 : zr x4) (hx5 : zr x5) (hx6 : zr x6) (hx7 : zr x7) (hx8 : zr x8) (hx9 : zr x9), zG K Z (zΩ Z) (zF K Z (zΩ Z) zeM) 0 0 89 [(0, .ref (Z.2.2.1 + 200)), (1, .int (zi a1)), (2, .ref (Z.2.2.1 + a2)), (4, .int (zi x4)), (5, .int (zi x5)), (6, .int (zi x6)), (7, .int (zi x7)), (8, .int (zi x8)), (9, .int (zi x9))] [] μ (k89 x4 x5 x6 x7 x8 x9 μ)) (x4 : Int) (x5 : Int) (x6 : Int) (x7 : Int) (x8 : Int) (x9 : Int) (μ : zM) (hx4 : zr x4) (hx5 : zr x5) (hx6 : zr x6) (hx7 : zr x7) (hx8 : zr x8) (hx9 : zr x9) : zG K Z (zΩ Z) (zF K Z (zΩ Z) zeM) 0 0 89 [(0, .ref (Z.2.2.1 + 200)), (1, .int (zi a1)), (2, .ref (Z.2.2.1 + a2)), (4, .int (zi x4)), (5, .int (zi x5)), (6, .int (zi x6)), (7, .int (zi x7)), (8, .int (zi x8)), (9, .int (zi x9))] [] μ (f4_renderPart_89 a1 a2 a3 k20 k89 x4 x5 x6 x7 x8 x9 μ) := by
  obtain ⟨hK, hex⟩ := id hcx
  unfold f4_renderPart_89
  refine g_iload hK 8 rfl d4_renderPart_89 ?_
  refine g_iload hK 7 rfl d4_renderPart_91 ?_
  refine g_icmp_ge hK hx9 hx8 (tgt := 144) (by decide) d4_renderPart_93 (fun _ => ?_) (fun _ => ?_)
  · refine g_iinc hK (lv2 := fun v7 => [(0, .ref (Z.2.2.1 + 200)), (1, .int (zi a1)), (2, .ref (Z.2.2.1 + a2)), (4, .int (zi x4)), (5, .int (zi x5)), (6, .int (zi v7)), (7, .int (zi x7)), (8, .int (zi x8)), (9, .int (zi x9))]) 5 rfl [1, 2, 3, 4, 5, 0, 6, 7, 8] (fun _ => rfl) (by decide) d4_renderPart_144 (fun v7 hv7 => ?_)
    refine g_goto hK (tgt := 20) (by decide) d4_renderPart_147 ?_
    refine g_lv (lv2 := [(0, .ref (Z.2.2.1 + 200)), (1, .int (zi a1)), (2, .ref (Z.2.2.1 + a2)), (4, .int (zi x4)), (5, .int (zi x5)), (6, .int (zi v7))]) [0, 1, 2, 3, 4, 5] rfl ?_
    exact hk20 x4 x5 v7 μ hx4 hx5 hv7
  · refine g_iload hK 3 rfl d4_renderPart_96 ?_
    refine g_iload hK 4 rfl d4_renderPart_98 ?_
    refine g_icmp_ge hK hx4 hx5 (tgt := 144) (by decide) d4_renderPart_100 (fun _ => ?_) (fun _ => ?_)
    · refine g_iinc hK (lv2 := fun v8 => [(0, .ref (Z.2.2.1 + 200)), (1, .int (zi a1)), (2, .ref (Z.2.2.1 + a2)), (4, .int (zi x4)), (5, .int (zi x5)), (6, .int (zi v8)), (7, .int (zi x7)), (8, .int (zi x8)), (9, .int (zi x9))]) 5 rfl [1, 2, 3, 4, 5, 0, 6, 7, 8] (fun _ => rfl) (by decide) d4_renderPart_144 (fun v8 hv8 => ?_)
      refine g_goto hK (tgt := 20) (by decide) d4_renderPart_147 ?_
      refine g_lv (lv2 := [(0, .ref (Z.2.2.1 + 200)), (1, .int (zi a1)), (2, .ref (Z.2.2.1 + a2)), (4, .int (zi x4)), (5, .int (zi x5)), (6, .int (zi v8))]) [0, 1, 2, 3, 4, 5] rfl ?_
      exact hk20 x4 x5 v8 μ hx4 hx5 hv8
    · refine g_aload_n hK 2 rfl rfl d4_renderPart_103 ?_
      refine g_iload hK 3 rfl d4_renderPart_104 ?_
      refine g_iload hK 6 rfl d4_renderPart_106 ?_
      refine g_if_lt hK hx7 (tgt := 116) (by decide) d4_renderPart_108 (fun _ => ?_) (fun _ => ?_)
      · refine g_aload_n hK 0 rfl rfl d4_renderPart_116 ?_
        refine g_iload hK 6 rfl d4_renderPart_117 ?_
        refine g_ineg hK d4_renderPart_119 (fun v9 hv9 => ?_)
        refine g_iconst hK d4_renderPart_120 zki1 ?_
        refine g_isub hK d4_renderPart_121 (fun v10 hv10 => ?_)
        refine g_iload hK 8 rfl d4_renderPart_122 ?_
        refine g_iload hK 7 rfl d4_renderPart_124 ?_
        refine g_iconst hK d4_renderPart_126 zki1 ?_
        refine g_isub hK d4_renderPart_127 (fun v11 hv11 => ?_)
        refine g_iload hK 8 rfl d4_renderPart_128 ?_
        refine g_isub hK d4_renderPart_130 (fun v12 hv12 => ?_)
        refine g_callVco hK (mk := mkI) (rm := rm4_changedByte) (cb := 0) (sb := 0) (As := [.int (zi v10), .int (zi x9), .int (zi v12)]) (b := 200) (n := 3) (c4_changedByte K.2.1 hK.2.2.2.2.2.2.2.2.1 Z v10 x9 v12 μ hv10 hx9 hv12) rfl (ci := 4) rfl (by decide) kc_200 q_617 q_619 qs_4_changedByte q_6 q_620 rfl (by decide +kernel) (by decide) (Nat.le_of_ble_eq_true rfl) (Nat.le_of_ble_eq_true rfl) (Nat.le_of_ble_eq_true rfl) rfl d4_renderPart_131 (fun r4 hr4 hpr4 => ?_)
        exact p4_renderPart_134 hcx a1 a2 a3 ha1 ha2 ha3 k20 hk20 k89 hk89 x4 x5 x6 x7 x8 x9 r4 x4 a2 μ hx4 hx5 hx6 hx7 hx8 hx9 hpr4 hx4 ha2
      · refine g_iload hK 6 rfl d4_renderPart_111 ?_
        refine g_goto hK (tgt := 134) (by decide) d4_renderPart_113 ?_
        exact p4_renderPart_134 hcx a1 a2 a3 ha1 ha2 ha3 k20 hk20 k89 hk89 x4 x5 x6 x7 x8 x9 x7 x4 a2 μ hx4 hx5 hx6 hx7 hx8 hx9 hx7 hx4 ha2
set_option maxRecDepth 20000 in
theorem l4_renderPart_89 {K : zK} {Z : zZ} (hcx : zOk K Z b4_renderPart RX4 10 (none) 2 58 0 0 ∧ ∀ x ∈ K.2.2.2.2.2.2.2.2.2.exceptionTable.toList, False) (a1 : Int) (a2 : Nat) (a3 : Int) (ha1 : zr a1) (ha2 : zkd a2 = 100) (ha3 : zr a3) (k20 : Int → Int → Int → zM → Option zM) (hk20 : ∀ (x4 : Int) (x5 : Int) (x6 : Int) (μ : zM) (hx4 : zr x4) (hx5 : zr x5) (hx6 : zr x6), zG K Z (zΩ Z) (zF K Z (zΩ Z) zeM) 0 0 20 [(0, .ref (Z.2.2.1 + 200)), (1, .int (zi a1)), (2, .ref (Z.2.2.1 + a2)), (4, .int (zi x4)), (5, .int (zi x5)), (6, .int (zi x6))] [] μ (k20 x4 x5 x6 μ)) : ∀ (i9 : Nat) (x4 : Int) (x5 : Int) (x6 : Int) (x7 : Int) (x8 : Int) (x9 : Int) (μ : zM) (hx4 : zr x4) (hx5 : zr x5) (hx6 : zr x6) (hx7 : zr x7) (hx8 : zr x8) (hx9 : zr x9), zG K Z (zΩ Z) (zF K Z (zΩ Z) zeM) 0 0 89 [(0, .ref (Z.2.2.1 + 200)), (1, .int (zi a1)), (2, .ref (Z.2.2.1 + a2)), (4, .int (zi x4)), (5, .int (zi x5)), (6, .int (zi x6)), (7, .int (zi x7)), (8, .int (zi x8)), (9, .int (zi x9))] [] μ (zfx (f4_renderPart_89 a1 a2 a3 k20) (fun _ _ _ _ _ _ _ => none) i9 x4 x5 x6 x7 x8 x9 μ) := by
  intro i9
  induction i9 with
  | zero => intro x4 x5 x6 x7 x8 x9 μ hx4 hx5 hx6 hx7 hx8 hx9; exact g_none
  | succ i9 ih => intro x4 x5 x6 x7 x8 x9 μ hx4 hx5 hx6 hx7 hx8 hx9; exact p4_renderPart_89 hcx a1 a2 a3 ha1 ha2 ha3 k20 hk20 (zfx (f4_renderPart_89 a1 a2 a3 k20) (fun _ _ _ _ _ _ _ => none) i9) ih x4 x5 x6 x7 x8 x9 μ hx4 hx5 hx6 hx7 hx8 hx9
set_option maxRecDepth 20000 in
theorem p4_renderPart_20 {K : zK} {Z : zZ} (hcx : zOk K Z b4_renderPart RX4 10 (none) 2 58 0 0 ∧ ∀ x ∈ K.2.2.2.2.2.2.2.2.2.exceptionTable.toList, False) (a1 : Int) (a2 : Nat) (a3 : Int) (ha1 : zr a1) (ha2 : zkd a2 = 100) (ha3 : zr a3) (k20 : Int → Int → Int → zM → Option zM) (hk20 : ∀ (x4 : Int) (x5 : Int) (x6 : Int) (μ : zM) (hx4 : zr x4) (hx5 : zr x5) (hx6 : zr x6), zG K Z (zΩ Z) (zF K Z (zΩ Z) zeM) 0 0 20 [(0, .ref (Z.2.2.1 + 200)), (1, .int (zi a1)), (2, .ref (Z.2.2.1 + a2)), (4, .int (zi x4)), (5, .int (zi x5)), (6, .int (zi x6))] [] μ (k20 x4 x5 x6 μ)) (x4 : Int) (x5 : Int) (x6 : Int) (μ : zM) (hx4 : zr x4) (hx5 : zr x5) (hx6 : zr x6) : zG K Z (zΩ Z) (zF K Z (zΩ Z) zeM) 0 0 20 [(0, .ref (Z.2.2.1 + 200)), (1, .int (zi a1)), (2, .ref (Z.2.2.1 + a2)), (4, .int (zi x4)), (5, .int (zi x5)), (6, .int (zi x6))] [] μ (f4_renderPart_20 a1 a2 a3 k20 x4 x5 x6 μ) := by
  obtain ⟨hK, hex⟩ := id hcx
  unfold f4_renderPart_20
  refine g_iload hK 5 rfl d4_renderPart_20 ?_
  refine g_aload_n hK 0 rfl rfl d4_renderPart_22 ?_
  refine g_getM hK zfin_4 (fa_4_0 kc_200) q_228 (w := 2) (by decide) d4_renderPart_23 (fun hm2 => ?_)
  refine g_iload_n hK 1 rfl rfl d4_renderPart_26 ?_
  refine g_callVco hK (mk := mkI) (rm := rm2_endItemOf) (cb := 0) (sb := 0) (As := [.int (zi a1)]) (b := (zR μ 200 0)) (n := 1) (c2_endItemOf K.2.1 hK.2.2.2.2.2.2.2.2.1 Z (zR μ 200 0) a1 μ hm2 ha1) rfl (ci := 2) rfl (by decide) hm2 q_612 q_613 q_614 q_3 q_615 rfl (by decide +kernel) (by decide) (Nat.le_of_ble_eq_true rfl) (Nat.le_of_ble_eq_true rfl) (Nat.le_of_ble_eq_true rfl) rfl d4_renderPart_27 (fun r2 hr2 hpr2 => ?_)
  refine g_icmp_ge hK hx6 hpr2 (tgt := 150) (by decide) d4_renderPart_30 (fun _ => ?_) (fun _ => ?_)
  · exact g_vret hK rfl rfl d4_renderPart_150
  · refine g_aload_n hK 0 rfl rfl d4_renderPart_33 ?_
    refine g_getM hK zfin_4 (fa_4_0 kc_200) q_228 (w := 2) (by decide) d4_renderPart_34 (fun hm3 => ?_)
    refine g_getR hK zfin_2 (fa_2_12 hm3) q_83 (pt_2_partOfItem hm3) d4_renderPart_37 ?_
    refine g_iload hK 5 rfl d4_renderPart_40 ?_
    refine g_iald hK (pt_2_partOfItem_k hm3) d4_renderPart_42 (fun _ hl1 => ?_)
    refine g_iload_n hK 1 rfl rfl d4_renderPart_43 ?_
    refine g_icmp_ne hK hl1 ha1 (tgt := 144) (by decide) d4_renderPart_44 (fun _ => ?_) (fun _ => ?_)
    · refine g_iinc hK (lv2 := fun v2 => [(0, .ref (Z.2.2.1 + 200)), (1, .int (zi a1)), (2, .ref (Z.2.2.1 + a2)), (4, .int (zi x4)), (5, .int (zi x5)), (6, .int (zi v2))]) 5 rfl [1, 2, 3, 4, 5, 0] (fun _ => rfl) (by decide) d4_renderPart_144 (fun v2 hv2 => ?_)
      refine g_goto hK (tgt := 20) (by decide) d4_renderPart_147 ?_
      exact hk20 x4 x5 v2 μ hx4 hx5 hv2
    · refine g_aload_n hK 0 rfl rfl d4_renderPart_47 ?_
      refine g_getM hK zfin_4 (fa_4_0 kc_200) q_228 (w := 2) (by decide) d4_renderPart_48 (fun hm4 => ?_)
      refine g_getR hK zfin_2 (fa_2_11 hm4) q_81 (pt_2_items hm4) d4_renderPart_51 ?_
      refine g_iload hK 5 rfl d4_renderPart_54 ?_
      refine g_iald hK (pt_2_items_k hm4) d4_renderPart_56 (fun _ hl2 => ?_)
      refine g_ltI hl2 (fun v3 hv3 => ?_)
      refine g_istore hK (lv2 := [(0, .ref (Z.2.2.1 + 200)), (1, .int (zi a1)), (2, .ref (Z.2.2.1 + a2)), (4, .int (zi x4)), (5, .int (zi x5)), (6, .int (zi x6)), (7, .int (zi v3))]) [1, 2, 3, 4, 5, 6, 0] rfl (by decide) d4_renderPart_57 ?_
      refine g_iload hK 6 rfl d4_renderPart_59 ?_
      refine g_if_lt hK hv3 (tgt := 68) (by decide) d4_renderPart_61 (fun _ => ?_) (fun _ => ?_)
      · refine g_aload_n hK 0 rfl rfl d4_renderPart_68 ?_
        refine g_iload hK 6 rfl d4_renderPart_69 ?_
        refine g_ineg hK d4_renderPart_71 (fun v4 hv4 => ?_)
        refine g_iconst hK d4_renderPart_72 zki1 ?_
        refine g_isub hK d4_renderPart_73 (fun v5 hv5 => ?_)
        refine g_callVco hK (mk := mkL) (rm := rm4_changedLength) (cb := 0) (sb := 0) (As := [.int (zi v5)]) (b := 200) (n := 1) (c4_changedLength K.2.1 hK.2.2.2.2.2.2.2.2.1 Z v5 μ hv5) rfl (ci := 4) rfl (by decide) kc_200 q_558 q_559 q_560 q_6 q_561 rfl (by decide +kernel) (by decide) (Nat.le_of_ble_eq_true rfl) (Nat.le_of_ble_eq_true rfl) (Nat.le_of_ble_eq_true rfl) rfl d4_renderPart_74 (fun r3 hr3 hpr3 => ?_)
        refine g_ldc2 hK (v := 400) q_616 d4_renderPart_77 ?_
        refine g_lmin hK hpr3 zcL400 q_562 q_563 q_13 q_564 (by decide) (Nat.le_of_ble_eq_true rfl) d4_renderPart_80 (fun w1 hw1 => ?_)
        refine g_l2i hK d4_renderPart_83 (fun v6 hv6 => ?_)
        refine g_istore hK (lv2 := [(0, .ref (Z.2.2.1 + 200)), (1, .int (zi a1)), (2, .ref (Z.2.2.1 + a2)), (4, .int (zi x4)), (5, .int (zi x5)), (6, .int (zi x6)), (7, .int (zi v3)), (8, .int (zi v6))]) [1, 2, 3, 4, 5, 6, 7, 0] rfl (by decide) d4_renderPart_84 ?_
        refine g_iconst hK d4_renderPart_86 zki0 ?_
        refine g_istore hK (lv2 := [(0, .ref (Z.2.2.1 + 200)), (1, .int (zi a1)), (2, .ref (Z.2.2.1 + a2)), (4, .int (zi x4)), (5, .int (zi x5)), (6, .int (zi x6)), (7, .int (zi v3)), (8, .int (zi v6)), (9, .int (zi 0))]) [1, 2, 3, 4, 5, 6, 7, 8, 0] rfl (by decide) d4_renderPart_87 ?_
        exact l4_renderPart_89 hcx a1 a2 a3 ha1 ha2 ha3 k20 hk20 zFu x4 x5 x6 v3 v6 0 μ hx4 hx5 hx6 hv3 hv6 zc0
      · refine g_iconst hK d4_renderPart_64 zki1 ?_
        refine g_goto hK (tgt := 84) (by decide) d4_renderPart_65 ?_
        refine g_istore hK (lv2 := [(0, .ref (Z.2.2.1 + 200)), (1, .int (zi a1)), (2, .ref (Z.2.2.1 + a2)), (4, .int (zi x4)), (5, .int (zi x5)), (6, .int (zi x6)), (7, .int (zi v3)), (8, .int (zi 1))]) [1, 2, 3, 4, 5, 6, 7, 0] rfl (by decide) d4_renderPart_84 ?_
        refine g_iconst hK d4_renderPart_86 zki0 ?_
        refine g_istore hK (lv2 := [(0, .ref (Z.2.2.1 + 200)), (1, .int (zi a1)), (2, .ref (Z.2.2.1 + a2)), (4, .int (zi x4)), (5, .int (zi x5)), (6, .int (zi x6)), (7, .int (zi v3)), (8, .int (zi 1)), (9, .int (zi 0))]) [1, 2, 3, 4, 5, 6, 7, 8, 0] rfl (by decide) d4_renderPart_87 ?_
        exact l4_renderPart_89 hcx a1 a2 a3 ha1 ha2 ha3 k20 hk20 zFu x4 x5 x6 v3 1 0 μ hx4 hx5 hx6 hv3 zc1 zc0
set_option maxRecDepth 20000 in
theorem l4_renderPart_20 {K : zK} {Z : zZ} (hcx : zOk K Z b4_renderPart RX4 10 (none) 2 58 0 0 ∧ ∀ x ∈ K.2.2.2.2.2.2.2.2.2.exceptionTable.toList, False) (a1 : Int) (a2 : Nat) (a3 : Int) (ha1 : zr a1) (ha2 : zkd a2 = 100) (ha3 : zr a3) : ∀ (i9 : Nat) (x4 : Int) (x5 : Int) (x6 : Int) (μ : zM) (hx4 : zr x4) (hx5 : zr x5) (hx6 : zr x6), zG K Z (zΩ Z) (zF K Z (zΩ Z) zeM) 0 0 20 [(0, .ref (Z.2.2.1 + 200)), (1, .int (zi a1)), (2, .ref (Z.2.2.1 + a2)), (4, .int (zi x4)), (5, .int (zi x5)), (6, .int (zi x6))] [] μ (zfx (f4_renderPart_20 a1 a2 a3) (fun _ _ _ _ => none) i9 x4 x5 x6 μ) := by
  intro i9
  induction i9 with
  | zero => intro x4 x5 x6 μ hx4 hx5 hx6; exact g_none
  | succ i9 ih => intro x4 x5 x6 μ hx4 hx5 hx6; exact p4_renderPart_20 hcx a1 a2 a3 ha1 ha2 ha3  (zfx (f4_renderPart_20 a1 a2 a3) (fun _ _ _ _ => none) i9) ih x4 x5 x6 μ hx4 hx5 hx6
set_option maxRecDepth 20000 in
theorem c4_renderPart (l : Launch) (hst : l.stackTraces = false) (Z : zZ) (a1 : Int) (a2 : Nat) (a3 : Int) (μ : zM) (ha1 : zr a1) (ha2 : zkd a2 = 100) (ha3 : zr a3) : ∀ x, f4_renderPart a1 a2 a3 μ = some x → zCt l Z (zΩ Z) y4_renderPart (zws (.code y4_renderPart b4_renderPart 10 (none))) rm4_renderPart [.ref (Z.2.2.1 + 200), .int (zi a1), .ref (Z.2.2.1 + a2), .int (zi a3)] μ (zeM x) := by
  intro x h
  refine zCt.of (enc := zeM) h (by decide) hst (Nat.le_of_ble_eq_true rfl) (fun K hK0 hex hl _ => ?_)
  subst hl
  have hcx : zOk K Z b4_renderPart RX4 10 (none) 2 58 0 0 ∧ ∀ x ∈ K.2.2.2.2.2.2.2.2.2.exceptionTable.toList, False := ⟨hK0, hex⟩
  have hK := hcx.1
  show zG K Z (zΩ Z) (zF K Z (zΩ Z) zeM) 0 0 0 [(0, .ref (Z.2.2.1 + 200)), (1, .int (zi a1)), (2, .ref (Z.2.2.1 + a2)), (3, .int (zi a3))] [] μ (f4_renderPart a1 a2 a3 μ)
  unfold f4_renderPart
  refine g_iload_n hK 3 rfl rfl d4_renderPart_0 ?_
  refine g_istore hK (lv2 := [(0, .ref (Z.2.2.1 + 200)), (1, .int (zi a1)), (2, .ref (Z.2.2.1 + a2)), (3, .int (zi a3)), (4, .int (zi a3))]) [1, 2, 3, 4, 0] rfl (by decide) d4_renderPart_1 ?_
  refine g_iload_n hK 3 rfl rfl d4_renderPart_3 ?_
  refine g_sipush hK d4_renderPart_4 zks400 ?_
  refine g_iadd hK d4_renderPart_7 (fun v1 hv1 => ?_)
  refine g_istore hK (lv2 := [(0, .ref (Z.2.2.1 + 200)), (1, .int (zi a1)), (2, .ref (Z.2.2.1 + a2)), (3, .int (zi a3)), (4, .int (zi a3)), (5, .int (zi v1))]) [1, 2, 3, 4, 5, 0] rfl (by decide) d4_renderPart_8 ?_
  refine g_aload_n hK 0 rfl rfl d4_renderPart_10 ?_
  refine g_getM hK zfin_4 (fa_4_0 kc_200) q_228 (w := 2) (by decide) d4_renderPart_11 (fun hm1 => ?_)
  refine g_iload_n hK 1 rfl rfl d4_renderPart_14 ?_
  refine g_callVco hK (mk := mkI) (rm := rm2_firstItemOf) (cb := 0) (sb := 0) (As := [.int (zi a1)]) (b := (zR μ 200 0)) (n := 1) (c2_firstItemOf K.2.1 hK.2.2.2.2.2.2.2.2.1 Z (zR μ 200 0) a1 μ hm1 ha1) rfl (ci := 2) rfl (by decide) hm1 q_608 q_609 q_610 q_3 q_611 rfl (by decide +kernel) (by decide) (Nat.le_of_ble_eq_true rfl) (Nat.le_of_ble_eq_true rfl) (Nat.le_of_ble_eq_true rfl) rfl d4_renderPart_15 (fun r1 hr1 hpr1 => ?_)
  refine g_istore hK (lv2 := [(0, .ref (Z.2.2.1 + 200)), (1, .int (zi a1)), (2, .ref (Z.2.2.1 + a2)), (3, .int (zi a3)), (4, .int (zi a3)), (5, .int (zi v1)), (6, .int (zi r1))]) [1, 2, 3, 4, 5, 6, 0] rfl (by decide) d4_renderPart_18 ?_
  refine g_lv (lv2 := [(0, .ref (Z.2.2.1 + 200)), (1, .int (zi a1)), (2, .ref (Z.2.2.1 + a2)), (4, .int (zi a3)), (5, .int (zi v1)), (6, .int (zi r1))]) [0, 1, 2, 4, 5, 6] rfl ?_
  exact l4_renderPart_20 hcx a1 a2 a3 ha1 ha2 ha3  zFu a3 v1 r1 μ ha3 hv1 hpr1
set_option maxRecDepth 20000 in
theorem p4_renderValues_37 {K : zK} {Z : zZ} (hcx : zOk K Z b4_renderValues RX4 4 (none) 3 87 0 0 ∧ ∀ x ∈ K.2.2.2.2.2.2.2.2.2.exceptionTable.toList, False) (k2 : Int → zM → Option zM) (hk2 : ∀ (x1 : Int) (μ : zM) (hx1 : zr x1), zG K Z (zΩ Z) (zF K Z (zΩ Z) zeM) 0 0 2 [(0, .ref (Z.2.2.1 + 200)), (1, .int (zi x1))] [] μ (k2 x1 μ)) (k10 : Int → Int → zM → Option zM) (hk10 : ∀ (x1 : Int) (x2 : Int) (μ : zM) (hx1 : zr x1) (hx2 : zr x2), zG K Z (zΩ Z) (zF K Z (zΩ Z) zeM) 0 0 10 [(0, .ref (Z.2.2.1 + 200)), (1, .int (zi x1)), (2, .int (zi x2))] [] μ (k10 x1 x2 μ)) (x1 : Int) (x2 : Int) (s0 : Int) (μ : zM) (hx1 : zr x1) (hx2 : zr x2) (hs0 : zr s0) : zG K Z (zΩ Z) (zF K Z (zΩ Z) zeM) 0 0 37 [(0, .ref (Z.2.2.1 + 200)), (1, .int (zi x1)), (2, .int (zi x2))] [.int (zi s0)] μ (f4_renderValues_37 k2 k10 x1 x2 s0 μ) := by
  obtain ⟨hK, hex⟩ := id hcx
  unfold f4_renderValues_37
  refine g_istore_n hK (lv2 := [(0, .ref (Z.2.2.1 + 200)), (1, .int (zi x1)), (2, .int (zi x2)), (3, .int (zi s0))]) [1, 2, 3, 0] rfl rfl (by decide) d4_renderValues_37 ?_
  refine g_iload_n hK 3 rfl rfl d4_renderValues_38 ?_
  refine g_if_eq hK hs0 (tgt := 71) (by decide) d4_renderValues_39 (fun _ => ?_) (fun _ => ?_)
  · refine g_iinc hK (lv2 := fun v2 => [(0, .ref (Z.2.2.1 + 200)), (1, .int (zi x1)), (2, .int (zi v2)), (3, .int (zi s0))]) 2 rfl [1, 2, 0, 3] (fun _ => rfl) (by decide) d4_renderValues_71 (fun v2 hv2 => ?_)
    refine g_goto hK (tgt := 10) (by decide) d4_renderValues_74 ?_
    refine g_lv (lv2 := [(0, .ref (Z.2.2.1 + 200)), (1, .int (zi x1)), (2, .int (zi v2))]) [0, 1, 2] rfl ?_
    exact hk10 x1 v2 μ hx1 hv2
  · refine g_aload_n hK 0 rfl rfl d4_renderValues_42 ?_
    refine g_getR hK zfin_4 (fa_4_5 kc_200) q_237 (r := 203) (by decide +kernel) d4_renderValues_43 ?_
    refine g_iload_n hK 2 rfl rfl d4_renderValues_46 ?_
    refine g_iald hK kc_203 d4_renderValues_47 (fun _ hl2 => ?_)
    refine g_iconst hK d4_renderValues_48 zkim1 ?_
    refine g_icmp_eq hK hl2 zcm1 (tgt := 71) (by decide) d4_renderValues_49 (fun _ => ?_) (fun _ => ?_)
    · refine g_iinc hK (lv2 := fun v3 => [(0, .ref (Z.2.2.1 + 200)), (1, .int (zi x1)), (2, .int (zi v3)), (3, .int (zi s0))]) 2 rfl [1, 2, 0, 3] (fun _ => rfl) (by decide) d4_renderValues_71 (fun v3 hv3 => ?_)
      refine g_goto hK (tgt := 10) (by decide) d4_renderValues_74 ?_
      refine g_lv (lv2 := [(0, .ref (Z.2.2.1 + 200)), (1, .int (zi x1)), (2, .int (zi v3))]) [0, 1, 2] rfl ?_
      exact hk10 x1 v3 μ hx1 hv3
    · refine g_aload_n hK 0 rfl rfl d4_renderValues_52 ?_
      refine g_aload_n hK 0 rfl rfl d4_renderValues_53 ?_
      refine g_getR hK zfin_4 (fa_4_5 kc_200) q_237 (r := 203) (by decide +kernel) d4_renderValues_54 ?_
      refine g_iload_n hK 2 rfl rfl d4_renderValues_57 ?_
      refine g_iald hK kc_203 d4_renderValues_58 (fun _ hl3 => ?_)
      refine g_aload_n hK 0 rfl rfl d4_renderValues_59 ?_
      refine g_getR hK zfin_4 (fa_4_11 kc_200) q_249 (r := 207) (by decide +kernel) d4_renderValues_60 ?_
      refine g_iload_n hK 2 rfl rfl d4_renderValues_63 ?_
      refine g_sipush hK d4_renderValues_64 zks400 ?_
      refine g_imul hK d4_renderValues_67 (fun v4 hv4 => ?_)
      refine g_callVcm hK (rm := rm4_renderPart) (cb := 0) (sb := 0) (As := [.int (zi (zI μ 203 (zx x2))), .ref (Z.2.2.1 + 207), .int (zi v4)]) (b := 200) (n := 3) (c4_renderPart K.2.1 hK.2.2.2.2.2.2.2.2.1 Z (zI μ 203 (zx x2)) 207 v4 μ hl3 kc_207 hv4) rfl (ci := 4) rfl (by decide) kc_200 q_604 q_606 qs_4_renderPart q_6 q_607 rfl (by decide +kernel) (by decide) (Nat.le_of_ble_eq_true rfl) (Nat.le_of_ble_eq_true rfl) (Nat.le_of_ble_eq_true rfl) rfl d4_renderValues_68 (fun m1 hm1 => ?_)
      refine g_iinc hK (lv2 := fun v5 => [(0, .ref (Z.2.2.1 + 200)), (1, .int (zi x1)), (2, .int (zi v5)), (3, .int (zi s0))]) 2 rfl [1, 2, 0, 3] (fun _ => rfl) (by decide) d4_renderValues_71 (fun v5 hv5 => ?_)
      refine g_goto hK (tgt := 10) (by decide) d4_renderValues_74 ?_
      refine g_lv (lv2 := [(0, .ref (Z.2.2.1 + 200)), (1, .int (zi x1)), (2, .int (zi v5))]) [0, 1, 2] rfl ?_
      exact hk10 x1 v5 m1 hx1 hv5
set_option maxRecDepth 20000 in
theorem p4_renderValues_10 {K : zK} {Z : zZ} (hcx : zOk K Z b4_renderValues RX4 4 (none) 3 87 0 0 ∧ ∀ x ∈ K.2.2.2.2.2.2.2.2.2.exceptionTable.toList, False) (k2 : Int → zM → Option zM) (hk2 : ∀ (x1 : Int) (μ : zM) (hx1 : zr x1), zG K Z (zΩ Z) (zF K Z (zΩ Z) zeM) 0 0 2 [(0, .ref (Z.2.2.1 + 200)), (1, .int (zi x1))] [] μ (k2 x1 μ)) (k10 : Int → Int → zM → Option zM) (hk10 : ∀ (x1 : Int) (x2 : Int) (μ : zM) (hx1 : zr x1) (hx2 : zr x2), zG K Z (zΩ Z) (zF K Z (zΩ Z) zeM) 0 0 10 [(0, .ref (Z.2.2.1 + 200)), (1, .int (zi x1)), (2, .int (zi x2))] [] μ (k10 x1 x2 μ)) (x1 : Int) (x2 : Int) (μ : zM) (hx1 : zr x1) (hx2 : zr x2) : zG K Z (zΩ Z) (zF K Z (zΩ Z) zeM) 0 0 10 [(0, .ref (Z.2.2.1 + 200)), (1, .int (zi x1)), (2, .int (zi x2))] [] μ (f4_renderValues_10 k2 k10 x1 x2 μ) := by
  obtain ⟨hK, hex⟩ := id hcx
  unfold f4_renderValues_10
  refine g_iload_n hK 2 rfl rfl d4_renderValues_10 ?_
  refine g_bipush hK d4_renderValues_11 zkb10 ?_
  refine g_icmp_ge hK hx2 zc10 (tgt := 77) (by decide) d4_renderValues_13 (fun _ => ?_) (fun _ => ?_)
  · refine g_iinc hK (lv2 := fun v1 => [(0, .ref (Z.2.2.1 + 200)), (1, .int (zi v1)), (2, .int (zi x2))]) 1 rfl [1, 0, 2] (fun _ => rfl) (by decide) d4_renderValues_77 (fun v1 hv1 => ?_)
    refine g_goto hK (tgt := 2) (by decide) d4_renderValues_80 ?_
    refine g_lv (lv2 := [(0, .ref (Z.2.2.1 + 200)), (1, .int (zi v1))]) [0, 1] rfl ?_
    exact hk2 v1 μ hv1
  · refine g_aload_n hK 0 rfl rfl d4_renderValues_16 ?_
    refine g_getM hK zfin_4 (fa_4_0 kc_200) q_228 (w := 2) (by decide) d4_renderValues_17 (fun hm1 => ?_)
    refine g_getR hK zfin_2 (fa_2_9 hm1) q_76 (pt_2_dependsOn hm1) d4_renderValues_20 ?_
    refine g_iload_n hK 2 rfl rfl d4_renderValues_23 ?_
    refine g_iald hK (pt_2_dependsOn_k hm1) d4_renderValues_24 (fun _ hl1 => ?_)
    refine g_callSco hK (mk := mkI) (rm := rmJ_bitCount) (cb := 0) (sb := 0) (As := [.int (zi (zI μ (zsb (zR μ 200 0) + 7) (zx x2)))]) (n := 1) (cJ_bitCount K.2.1 hK.2.2.2.2.2.2.2.2.1 Z (zI μ (zsb (zR μ 200 0) + 7) (zx x2)) μ hl1) q_548 q_549 q_21 q_550 rfl (by decide +kernel) (by decide) (Nat.le_of_ble_eq_true rfl) (Nat.le_of_ble_eq_true rfl) (Nat.le_of_ble_eq_true rfl) rfl d4_renderValues_25 (fun r1 hr1 hpr1 => ?_)
    refine g_iload_n hK 1 rfl rfl d4_renderValues_28 ?_
    refine g_icmp_ne hK hpr1 hx1 (tgt := 36) (by decide) d4_renderValues_29 (fun _ => ?_) (fun _ => ?_)
    · refine g_iconst hK d4_renderValues_36 zki0 ?_
      exact p4_renderValues_37 hcx k2 hk2 k10 hk10 x1 x2 0 μ hx1 hx2 zc0
    · refine g_iconst hK d4_renderValues_32 zki1 ?_
      refine g_goto hK (tgt := 37) (by decide) d4_renderValues_33 ?_
      exact p4_renderValues_37 hcx k2 hk2 k10 hk10 x1 x2 1 μ hx1 hx2 zc1
set_option maxRecDepth 20000 in
theorem l4_renderValues_10 {K : zK} {Z : zZ} (hcx : zOk K Z b4_renderValues RX4 4 (none) 3 87 0 0 ∧ ∀ x ∈ K.2.2.2.2.2.2.2.2.2.exceptionTable.toList, False) (k2 : Int → zM → Option zM) (hk2 : ∀ (x1 : Int) (μ : zM) (hx1 : zr x1), zG K Z (zΩ Z) (zF K Z (zΩ Z) zeM) 0 0 2 [(0, .ref (Z.2.2.1 + 200)), (1, .int (zi x1))] [] μ (k2 x1 μ)) : ∀ (i9 : Nat) (x1 : Int) (x2 : Int) (μ : zM) (hx1 : zr x1) (hx2 : zr x2), zG K Z (zΩ Z) (zF K Z (zΩ Z) zeM) 0 0 10 [(0, .ref (Z.2.2.1 + 200)), (1, .int (zi x1)), (2, .int (zi x2))] [] μ (zfx (f4_renderValues_10 k2) (fun _ _ _ => none) i9 x1 x2 μ) := by
  intro i9
  induction i9 with
  | zero => intro x1 x2 μ hx1 hx2; exact g_none
  | succ i9 ih => intro x1 x2 μ hx1 hx2; exact p4_renderValues_10 hcx k2 hk2 (zfx (f4_renderValues_10 k2) (fun _ _ _ => none) i9) ih x1 x2 μ hx1 hx2
set_option maxRecDepth 20000 in
theorem p4_renderValues_2 {K : zK} {Z : zZ} (hcx : zOk K Z b4_renderValues RX4 4 (none) 3 87 0 0 ∧ ∀ x ∈ K.2.2.2.2.2.2.2.2.2.exceptionTable.toList, False) (k2 : Int → zM → Option zM) (hk2 : ∀ (x1 : Int) (μ : zM) (hx1 : zr x1), zG K Z (zΩ Z) (zF K Z (zΩ Z) zeM) 0 0 2 [(0, .ref (Z.2.2.1 + 200)), (1, .int (zi x1))] [] μ (k2 x1 μ)) (x1 : Int) (μ : zM) (hx1 : zr x1) : zG K Z (zΩ Z) (zF K Z (zΩ Z) zeM) 0 0 2 [(0, .ref (Z.2.2.1 + 200)), (1, .int (zi x1))] [] μ (f4_renderValues_2 k2 x1 μ) := by
  obtain ⟨hK, hex⟩ := id hcx
  unfold f4_renderValues_2
  refine g_iload_n hK 1 rfl rfl d4_renderValues_2 ?_
  refine g_bipush hK d4_renderValues_3 zkb10 ?_
  refine g_icmp_ge hK hx1 zc10 (tgt := 83) (by decide) d4_renderValues_5 (fun _ => ?_) (fun _ => ?_)
  · exact g_vret hK rfl rfl d4_renderValues_83
  · refine g_iconst hK d4_renderValues_8 zki0 ?_
    refine g_istore_n hK (lv2 := [(0, .ref (Z.2.2.1 + 200)), (1, .int (zi x1)), (2, .int (zi 0))]) [1, 2, 0] rfl rfl (by decide) d4_renderValues_9 ?_
    exact l4_renderValues_10 hcx k2 hk2 zFu x1 0 μ hx1 zc0
set_option maxRecDepth 20000 in
theorem l4_renderValues_2 {K : zK} {Z : zZ} (hcx : zOk K Z b4_renderValues RX4 4 (none) 3 87 0 0 ∧ ∀ x ∈ K.2.2.2.2.2.2.2.2.2.exceptionTable.toList, False) : ∀ (i9 : Nat) (x1 : Int) (μ : zM) (hx1 : zr x1), zG K Z (zΩ Z) (zF K Z (zΩ Z) zeM) 0 0 2 [(0, .ref (Z.2.2.1 + 200)), (1, .int (zi x1))] [] μ (zfx (f4_renderValues_2) (fun _ _ => none) i9 x1 μ) := by
  intro i9
  induction i9 with
  | zero => intro x1 μ hx1; exact g_none
  | succ i9 ih => intro x1 μ hx1; exact p4_renderValues_2 hcx  (zfx (f4_renderValues_2) (fun _ _ => none) i9) ih x1 μ hx1
set_option maxRecDepth 20000 in
theorem c4_renderValues (l : Launch) (hst : l.stackTraces = false) (Z : zZ) (μ : zM) : ∀ x, f4_renderValues μ = some x → zCt l Z (zΩ Z) y4_renderValues (zws (.code y4_renderValues b4_renderValues 4 (none))) rm4_renderValues [.ref (Z.2.2.1 + 200)] μ (zeM x) := by
  intro x h
  refine zCt.of (enc := zeM) h (by decide) hst (Nat.le_of_ble_eq_true rfl) (fun K hK0 hex hl _ => ?_)
  subst hl
  have hcx : zOk K Z b4_renderValues RX4 4 (none) 3 87 0 0 ∧ ∀ x ∈ K.2.2.2.2.2.2.2.2.2.exceptionTable.toList, False := ⟨hK0, hex⟩
  have hK := hcx.1
  show zG K Z (zΩ Z) (zF K Z (zΩ Z) zeM) 0 0 0 [(0, .ref (Z.2.2.1 + 200))] [] μ (f4_renderValues μ)
  unfold f4_renderValues
  refine g_iconst hK d4_renderValues_0 zki0 ?_
  refine g_istore_n hK (lv2 := [(0, .ref (Z.2.2.1 + 200)), (1, .int (zi 0))]) [1, 0] rfl rfl (by decide) d4_renderValues_1 ?_
  exact l4_renderValues_2 hcx  zFu 0 μ zc0
set_option maxRecDepth 20000 in
theorem c4_renderText (l : Launch) (hst : l.stackTraces = false) (Z : zZ) (μ : zM) : ∀ x, f4_renderText μ = some x → zCt l Z (zΩ Z) y4_renderText (zws (.code y4_renderText b4_renderText 1 (none))) rm4_renderText [.ref (Z.2.2.1 + 200)] μ (zeM x) := by
  intro x h
  refine zCt.of (enc := zeM) h (by decide) hst (Nat.le_of_ble_eq_true rfl) (fun K hK0 hex hl _ => ?_)
  subst hl
  have hcx : zOk K Z b4_renderText RX4 1 (none) 4 110 0 0 ∧ ∀ x ∈ K.2.2.2.2.2.2.2.2.2.exceptionTable.toList, False := ⟨hK0, hex⟩
  have hK := hcx.1
  show zG K Z (zΩ Z) (zF K Z (zΩ Z) zeM) 0 0 0 [(0, .ref (Z.2.2.1 + 200))] [] μ (f4_renderText μ)
  unfold f4_renderText
  refine g_aload_n hK 0 rfl rfl d4_renderText_0 ?_
  refine g_callVcm hK (rm := rm4_renderValues) (cb := 0) (sb := 0) (As := []) (b := 200) (n := 0) (c4_renderValues K.2.1 hK.2.2.2.2.2.2.2.2.1 Z  μ ) rfl (ci := 4) rfl (by decide) kc_200 q_678 q_601 q_602 q_6 q_603 rfl (by decide +kernel) (by decide) (Nat.le_of_ble_eq_true rfl) (Nat.le_of_ble_eq_true rfl) (Nat.le_of_ble_eq_true rfl) rfl d4_renderText_1 (fun m1 hm1 => ?_)
  refine g_aload_n hK 0 rfl rfl d4_renderText_4 ?_
  refine g_iconst hK d4_renderText_5 zkim1 ?_
  refine g_aload_n hK 0 rfl rfl d4_renderText_6 ?_
  refine g_getR hK zfin_4 (fa_4_12 kc_200) q_251 (r := 208) (by decide +kernel) d4_renderText_7 ?_
  refine g_iconst hK d4_renderText_10 zki0 ?_
  refine g_callVcm hK (rm := rm4_renderPart) (cb := 0) (sb := 0) (As := [.int (zi (-1)), .ref (Z.2.2.1 + 208), .int (zi 0)]) (b := 200) (n := 3) (c4_renderPart K.2.1 hK.2.2.2.2.2.2.2.2.1 Z (-1) 208 0 m1 zcm1 kc_208 zc0) rfl (ci := 4) rfl (by decide) kc_200 q_604 q_606 qs_4_renderPart q_6 q_607 rfl (by decide +kernel) (by decide) (Nat.le_of_ble_eq_true rfl) (Nat.le_of_ble_eq_true rfl) (Nat.le_of_ble_eq_true rfl) rfl d4_renderText_11 (fun m2 hm2 => ?_)
  exact g_vret hK rfl rfl d4_renderText_14
