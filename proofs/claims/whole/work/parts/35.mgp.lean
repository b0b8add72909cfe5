set_option maxRecDepth 20000 in
theorem p7_laysBegins_6 {K : zK} {Z : zZ} {n : Nat} (hcx : zOk K Z b7_laysBegins RX7 9 (some .int) (43 + (n + 1)) (1111 + (n + 1) * 28) 0 0 ∧ ∀ x ∈ K.2.2.2.2.2.2.2.2.2.exceptionTable.toList, False) (R_laysBegins : (Int → Int → Int → zM → Option (Int × zM))) (hR_laysBegins : ∀ (a1 : Int) (a2 : Int) (a3 : Int) (μ : zM) (ha1 : zr a1) (ha2 : zr a2) (ha3 : zr a3), ∀ x, R_laysBegins a1 a2 a3 μ = some x → zCt K.2.1 Z (zΩ Z) y7_laysBegins (zws (.code y7_laysBegins b7_laysBegins 9 (some .int))) (rmGC n) [.ref (Z.2.2.1 + 292), .int (zi a1), .int (zi a2), .int (zi a3)] μ (ze2 mkI x)) (a1 : Int) (a2 : Int) (a3 : Int) (ha1 : zr a1) (ha2 : zr a2) (ha3 : zr a3) (k6 : Int → Int → zM → Option (Int × zM)) (hk6 : ∀ (x4 : Int) (x5 : Int) (μ : zM) (hx4 : zr x4) (hx5 : zr x5), zG K Z (zΩ Z) (zF K Z (zΩ Z) (ze2 mkI)) 0 0 6 [(0, .ref (Z.2.2.1 + 292)), (2, .int (zi a2)), (4, .int (zi x4)), (5, .int (zi x5))] [] μ (k6 x4 x5 μ)) (x4 : Int) (x5 : Int) (μ : zM) (hx4 : zr x4) (hx5 : zr x5) : zG K Z (zΩ Z) (zF K Z (zΩ Z) (ze2 mkI)) 0 0 6 [(0, .ref (Z.2.2.1 + 292)), (2, .int (zi a2)), (4, .int (zi x4)), (5, .int (zi x5))] [] μ (f7_laysBegins_6 R_laysBegins a1 a2 a3 k6 x4 x5 μ) := by
  obtain ⟨hK, hex⟩ := id hcx
  unfold f7_laysBegins_6
  refine g_iload hK 3 rfl d7_laysBegins_6 ?_
  refine g_iload_n hK 1 rfl rfl d7_laysBegins_8 ?_
  refine g_icmp_ge hK hx5 ha2 (tgt := 126) (by decide) d7_laysBegins_9 (fun _ => ?_) (fun _ => ?_)
  · refine g_iload hK 2 rfl d7_laysBegins_126 ?_
    exact g_iret hK hx4 rfl rfl d7_laysBegins_128
  · refine g_aload_n hK 0 rfl rfl d7_laysBegins_12 ?_
    refine g_getM hK zfin_7 (fa_7_8 kc_292) q_1205 (w := 6) (by decide) d7_laysBegins_13 (fun hm1 => ?_)
    refine g_getRN hK zfin_6 (fa_6_5 hm1) qn_1147 (pt_6_items hm1) d7_laysBegins_16 ?_
    refine g_iload hK 3 rfl d7_laysBegins_19 ?_
    refine g_iald hK (pt_6_items_k hm1) d7_laysBegins_21 (fun _ hl1 => ?_)
    refine g_ltI hl1 (fun v1 hv1 => ?_)
    refine g_istore hK (lv2 := [(0, .ref (Z.2.2.1 + 292)), (2, .int (zi a2)), (4, .int (zi x4)), (5, .int (zi x5)), (6, .int (zi v1))]) [1, 2, 3, 4, 0] rfl (by decide) d7_laysBegins_22 ?_
    refine g_iload hK 4 rfl d7_laysBegins_24 ?_
    refine g_sipush hK d7_laysBegins_26 zks1000 ?_
    refine g_icmp_lt hK hv1 zc1000 (tgt := 117) (by decide) d7_laysBegins_29 (fun _ => ?_) (fun _ => ?_)
    · refine g_iinc hK (lv2 := fun v2 => [(0, .ref (Z.2.2.1 + 292)), (2, .int (zi a2)), (4, .int (zi v2)), (5, .int (zi x5)), (6, .int (zi v1))]) 2 rfl [1, 2, 0, 3, 4] (fun _ => rfl) (by decide) d7_laysBegins_117 (fun v2 hv2 => ?_)
      refine g_iinc hK (lv2 := fun v3 => [(0, .ref (Z.2.2.1 + 292)), (2, .int (zi a2)), (4, .int (zi v2)), (5, .int (zi v3)), (6, .int (zi v1))]) 3 rfl [1, 2, 3, 0, 4] (fun _ => rfl) (by decide) d7_laysBegins_120 (fun v3 hv3 => ?_)
      refine g_goto hK (tgt := 6) (by decide) d7_laysBegins_123 ?_
      refine g_lv (lv2 := [(0, .ref (Z.2.2.1 + 292)), (2, .int (zi a2)), (4, .int (zi v2)), (5, .int (zi v3))]) [0, 1, 2, 3] rfl ?_
      exact hk6 v2 v3 μ hv2 hv3
    · refine g_iload hK 4 rfl d7_laysBegins_32 ?_
      refine g_sipush hK d7_laysBegins_34 zks1000 ?_
      refine g_isub hK d7_laysBegins_37 (fun v4 hv4 => ?_)
      refine g_istore hK (lv2 := [(0, .ref (Z.2.2.1 + 292)), (2, .int (zi a2)), (4, .int (zi x4)), (5, .int (zi x5)), (6, .int (zi v1)), (7, .int (zi v4))]) [1, 2, 3, 4, 5, 0] rfl (by decide) d7_laysBegins_38 ?_
      refine g_aload_n hK 0 rfl rfl d7_laysBegins_40 ?_
      refine g_getR hK zfin_7 (fa_7_34 kc_292) q_1231 (r := 337) (by decide +kernel) d7_laysBegins_41 ?_
      refine g_iload hK 5 rfl d7_laysBegins_44 ?_
      refine g_iload hK 2 rfl d7_laysBegins_46 ?_
      refine g_iast hK hx4 kc_337 d7_laysBegins_48 (fun _ => ?_)
      refine g_ltM (fun m1 => ?_)
      refine g_aload_n hK 0 rfl rfl d7_laysBegins_49 ?_
      refine g_getR hK zfin_7 (fa_7_24 kc_292) q_1221 (r := 330) (by decide +kernel) d7_laysBegins_50 ?_
      refine g_iload hK 5 rfl d7_laysBegins_53 ?_
      refine g_zald hK kc_330 d7_laysBegins_55 (fun _ hl2 => ?_)
      refine g_if_eq hK hl2 (tgt := 85) (by decide) d7_laysBegins_56 (fun _ => ?_) (fun _ => ?_)
      · refine g_lv (lv2 := [(0, .ref (Z.2.2.1 + 292)), (2, .int (zi a2)), (4, .int (zi x4)), (7, .int (zi v4))]) [0, 1, 2, 5] rfl ?_
        exact p7_laysBegins_85 hcx R_laysBegins hR_laysBegins a1 a2 a3 ha1 ha2 ha3 k6 hk6 x4 v4 m1 hx4 hv4
      · refine g_aload_n hK 0 rfl rfl d7_laysBegins_59 ?_
        refine g_iload hK 3 rfl d7_laysBegins_60 ?_
        refine g_iconst hK d7_laysBegins_62 zki1 ?_
        refine g_iadd hK d7_laysBegins_63 (fun v5 hv5 => ?_)
        refine g_aload_n hK 0 rfl rfl d7_laysBegins_64 ?_
        refine g_getM hK zfin_7 (fa_7_8 kc_292) q_1205 (w := 6) (by decide) d7_laysBegins_65 (fun hm2 => ?_)
        refine g_getRN hK zfin_6 (fa_6_12 hm2) qn_1161 (pt_6_to hm2) d7_laysBegins_68 ?_
        refine g_aload_n hK 0 rfl rfl d7_laysBegins_71 ?_
        refine g_iload hK 5 rfl d7_laysBegins_72 ?_
        refine g_callVco hK (mk := mkI) (rm := rm7_of) (cb := 0) (sb := 0) (As := [.int (zi v4)]) (b := 292) (n := 1) (c7_of K.2.1 hK.2.2.2.2.2.2.2.2.1 Z v4 m1 hv4) rfl (ci := 7) rfl (by decide) kc_292 q_1479 q_1481 qs_7_of q_7 q_1482 rfl (by decide +kernel) (by decide) (by simp only [rm7_of]; omega) (by simp only [rm7_of]; omega) (Nat.le_of_ble_eq_true rfl) rfl d7_laysBegins_74 (fun r1 hr1 hpr1 => ?_)
        refine g_iald hK (pt_6_to_k hm2) d7_laysBegins_77 (fun _ hl3 => ?_)
        refine g_iload hK 2 rfl d7_laysBegins_78 ?_
        refine g_callVcl hK (mk := mkI) (rm := (rmGC n)) (cb := 0) (sb := 0) (As := [.int (zi v5), .int (zi (zI m1 ((zR m1 292 8) + 11) (zx r1))), .int (zi x4)]) (b := 292) (n := 3) (hR_laysBegins v5 (zI m1 ((zR m1 292 8) + 11) (zx r1)) x4 m1 hv5 hl3 hx4) rfl (ci := 7) rfl (by decide) kc_292 q_1581 q_1583 qs_7_laysBegins q_7 q_1584 rfl (by decide +kernel) (by decide) (by simp only [rmGC]; omega) (by simp only [rmGC]; omega) (Nat.le_of_ble_eq_true rfl) rfl d7_laysBegins_80 (fun r2 m2 hr2 hpr2 => ?_)
        refine g_istore hK (lv2 := [(0, .ref (Z.2.2.1 + 292)), (2, .int (zi a2)), (4, .int (zi x4)), (5, .int (zi x5)), (6, .int (zi v1)), (7, .int (zi v4)), (8, .int (zi r2))]) [1, 2, 3, 4, 5, 6, 0] rfl (by decide) d7_laysBegins_83 ?_
        refine g_lv (lv2 := [(0, .ref (Z.2.2.1 + 292)), (2, .int (zi a2)), (4, .int (zi x4)), (7, .int (zi v4))]) [0, 1, 2, 5] rfl ?_
        exact p7_laysBegins_85 hcx R_laysBegins hR_laysBegins a1 a2 a3 ha1 ha2 ha3 k6 hk6 x4 v4 m2 hx4 hv4
set_option maxRecDepth 20000 in
theorem l7_laysBegins_6 {K : zK} {Z : zZ} {n : Nat} (hcx : zOk K Z b7_laysBegins RX7 9 (some .int) (43 + (n + 1)) (1111 + (n + 1) * 28) 0 0 ∧ ∀ x ∈ K.2.2.2.2.2.2.2.2.2.exceptionTable.toList, False) (R_laysBegins : (Int → Int → Int → zM → Option (Int × zM))) (hR_laysBegins : ∀ (a1 : Int) (a2 : Int) (a3 : Int) (μ : zM) (ha1 : zr a1) (ha2 : zr a2) (ha3 : zr a3), ∀ x, R_laysBegins a1 a2 a3 μ = some x → zCt K.2.1 Z (zΩ Z) y7_laysBegins (zws (.code y7_laysBegins b7_laysBegins 9 (some .int))) (rmGC n) [.ref (Z.2.2.1 + 292), .int (zi a1), .int (zi a2), .int (zi a3)] μ (ze2 mkI x)) (a1 : Int) (a2 : Int) (a3 : Int) (ha1 : zr a1) (ha2 : zr a2) (ha3 : zr a3) : ∀ (i9 : Nat) (x4 : Int) (x5 : Int) (μ : zM) (hx4 : zr x4) (hx5 : zr x5), zG K Z (zΩ Z) (zF K Z (zΩ Z) (ze2 mkI)) 0 0 6 [(0, .ref (Z.2.2.1 + 292)), (2, .int (zi a2)), (4, .int (zi x4)), (5, .int (zi x5))] [] μ (zfx (f7_laysBegins_6 R_laysBegins a1 a2 a3) (fun _ _ _ => none) i9 x4 x5 μ) := by
  intro i9
  induction i9 with
  | zero => intro x4 x5 μ hx4 hx5; exact g_none
  | succ i9 ih => intro x4 x5 μ hx4 hx5; exact p7_laysBegins_6 hcx R_laysBegins hR_laysBegins a1 a2 a3 ha1 ha2 ha3  (zfx (f7_laysBegins_6 R_laysBegins a1 a2 a3) (fun _ _ _ => none) i9) ih x4 x5 μ hx4 hx5
set_option maxRecDepth 20000 in
theorem c7_laysBegins_o (l : Launch) (hst : l.stackTraces = false) (Z : zZ) {n : Nat} (R_laysBegins : (Int → Int → Int → zM → Option (Int × zM))) (hR_laysBegins : ∀ (a1 : Int) (a2 : Int) (a3 : Int) (μ : zM) (ha1 : zr a1) (ha2 : zr a2) (ha3 : zr a3), ∀ x, R_laysBegins a1 a2 a3 μ = some x → zCt l Z (zΩ Z) y7_laysBegins (zws (.code y7_laysBegins b7_laysBegins 9 (some .int))) (rmGC n) [.ref (Z.2.2.1 + 292), .int (zi a1), .int (zi a2), .int (zi a3)] μ (ze2 mkI x)) (a1 : Int) (a2 : Int) (a3 : Int) (μ : zM) (ha1 : zr a1) (ha2 : zr a2) (ha3 : zr a3) : ∀ x, f7_laysBegins_o R_laysBegins a1 a2 a3 μ = some x → zCt l Z (zΩ Z) y7_laysBegins (zws (.code y7_laysBegins b7_laysBegins 9 (some .int))) (rmGC (n + 1)) [.ref (Z.2.2.1 + 292), .int (zi a1), .int (zi a2), .int (zi a3)] μ (ze2 mkI x) := by
  intro x h
  refine zCt.of (enc := (ze2 mkI)) h (by decide) hst (Nat.le_of_ble_eq_true rfl) (fun K hK0 hex hl _ => ?_)
  subst hl
  have hcx : zOk K Z b7_laysBegins RX7 9 (some .int) (43 + (n + 1)) (1111 + (n + 1) * 28) 0 0 ∧ ∀ x ∈ K.2.2.2.2.2.2.2.2.2.exceptionTable.toList, False := ⟨hK0, hex⟩
  have hK := hcx.1
  show zG K Z (zΩ Z) (zF K Z (zΩ Z) (ze2 mkI)) 0 0 0 [(0, .ref (Z.2.2.1 + 292)), (1, .int (zi a1)), (2, .int (zi a2)), (3, .int (zi a3))] [] μ (f7_laysBegins_o R_laysBegins a1 a2 a3 μ)
  unfold f7_laysBegins_o
  refine g_iload_n hK 3 rfl rfl d7_laysBegins_0 ?_
  refine g_istore hK (lv2 := [(0, .ref (Z.2.2.1 + 292)), (1, .int (zi a1)), (2, .int (zi a2)), (3, .int (zi a3)), (4, .int (zi a3))]) [1, 2, 3, 4, 0] rfl (by decide) d7_laysBegins_1 ?_
  refine g_iload_n hK 1 rfl rfl d7_laysBegins_3 ?_
  refine g_istore hK (lv2 := [(0, .ref (Z.2.2.1 + 292)), (1, .int (zi a1)), (2, .int (zi a2)), (3, .int (zi a3)), (4, .int (zi a3)), (5, .int (zi a1))]) [1, 2, 3, 4, 5, 0] rfl (by decide) d7_laysBegins_4 ?_
  refine g_lv (lv2 := [(0, .ref (Z.2.2.1 + 292)), (2, .int (zi a2)), (4, .int (zi a3)), (5, .int (zi a1))]) [0, 2, 4, 5] rfl ?_
  exact l7_laysBegins_6 hcx R_laysBegins hR_laysBegins a1 a2 a3 ha1 ha2 ha3  zFu a3 a1 μ ha3 ha1
set_option maxRecDepth 20000 in
theorem cGC (l : Launch) (hst : l.stackTraces = false) (Z : zZ) : ∀ n : Nat, (∀ (a1 : Int) (a2 : Int) (a3 : Int) (μ : zM) (ha1 : zr a1) (ha2 : zr a2) (ha3 : zr a3), ∀ x, f7_laysBegins n a1 a2 a3 μ = some x → zCt l Z (zΩ Z) y7_laysBegins (zws (.code y7_laysBegins b7_laysBegins 9 (some .int))) (rmGC n) [.ref (Z.2.2.1 + 292), .int (zi a1), .int (zi a2), .int (zi a3)] μ (ze2 mkI x)) := by
  intro n
  induction n with
  | zero => exact (by intros; rename_i h9; cases h9)
  | succ n ih => exact c7_laysBegins_o l hst Z (f7_laysBegins n) ih
set_option maxRecDepth 20000 in
theorem c7_laysBegins (n : Nat) (l : Launch) (hst : l.stackTraces = false) (Z : zZ) (a1 : Int) (a2 : Int) (a3 : Int) (μ : zM) (ha1 : zr a1) (ha2 : zr a2) (ha3 : zr a3) : ∀ x, f7_laysBegins n a1 a2 a3 μ = some x → zCt l Z (zΩ Z) y7_laysBegins (zws (.code y7_laysBegins b7_laysBegins 9 (some .int))) (rmGC n) [.ref (Z.2.2.1 + 292), .int (zi a1), .int (zi a2), .int (zi a3)] μ (ze2 mkI x) := (cGC l hst Z n) a1 a2 a3 μ ha1 ha2 ha3
set_option maxRecDepth 20000 in
theorem p7_beginOf_2 {K : zK} {Z : zZ} (hcx : zOk K Z b7_beginOf RX7 3 (some .int) 84 2259 0 0 ∧ ∀ x ∈ K.2.2.2.2.2.2.2.2.2.exceptionTable.toList, False) (a1 : Int) (ha1 : zr a1) (k2 : Int → zM → Option (Int × zM)) (hk2 : ∀ (x2 : Int) (μ : zM) (hx2 : zr x2), zG K Z (zΩ Z) (zF K Z (zΩ Z) (ze2 mkI)) 0 0 2 [(0, .ref (Z.2.2.1 + 292)), (1, .int (zi a1)), (2, .int (zi x2))] [] μ (k2 x2 μ)) (x2 : Int) (μ : zM) (hx2 : zr x2) : zG K Z (zΩ Z) (zF K Z (zΩ Z) (ze2 mkI)) 0 0 2 [(0, .ref (Z.2.2.1 + 292)), (1, .int (zi a1)), (2, .int (zi x2))] [] μ (f7_beginOf_2 a1 k2 x2 μ) := by
  obtain ⟨hK, hex⟩ := id hcx
  unfold f7_beginOf_2
  refine g_iload_n hK 2 rfl rfl d7_beginOf_2 ?_
  refine g_aload_n hK 0 rfl rfl d7_beginOf_3 ?_
  refine g_callVco hK (mk := mkI) (rm := rm7_many) (cb := 0) (sb := 0) (As := []) (b := 292) (n := 0) (c7_many K.2.1 hK.2.2.2.2.2.2.2.2.1 Z  μ ) rfl (ci := 7) rfl (by decide) kc_292 q_1475 q_1477 qs_7_many q_7 q_1478 rfl (by decide +kernel) (by decide) (Nat.le_of_ble_eq_true rfl) (Nat.le_of_ble_eq_true rfl) (Nat.le_of_ble_eq_true rfl) rfl d7_beginOf_4 (fun r1 hr1 hpr1 => ?_)
  refine g_icmp_ge hK hx2 hpr1 (tgt := 23) (by decide) d7_beginOf_7 (fun _ => ?_) (fun _ => ?_)
  · refine g_aload_n hK 0 rfl rfl d7_beginOf_23 ?_
    refine g_aload_n hK 0 rfl rfl d7_beginOf_24 ?_
    refine g_getM hK zfin_7 (fa_7_8 kc_292) q_1205 (w := 6) (by decide) d7_beginOf_25 (fun hm1 => ?_)
    refine g_getRN hK zfin_6 (fa_6_4 hm1) qn_1145 (pt_6_from hm1) d7_beginOf_28 ?_
    refine g_aload_n hK 0 rfl rfl d7_beginOf_31 ?_
    refine g_getI hK zfin_7 (fa_7_21 kc_292) q_1218 d7_beginOf_32 (fun hf1 => ?_)
    refine g_iald hK (pt_6_from_k hm1) d7_beginOf_35 (fun _ hl1 => ?_)
    refine g_aload_n hK 0 rfl rfl d7_beginOf_36 ?_
    refine g_getM hK zfin_7 (fa_7_8 kc_292) q_1205 (w := 6) (by decide) d7_beginOf_37 (fun hm2 => ?_)
    refine g_getRN hK zfin_6 (fa_6_4 hm2) qn_1145 (pt_6_from hm2) d7_beginOf_40 ?_
    refine g_aload_n hK 0 rfl rfl d7_beginOf_43 ?_
    refine g_getI hK zfin_7 (fa_7_21 kc_292) q_1218 d7_beginOf_44 (fun hf2 => ?_)
    refine g_iconst hK d7_beginOf_47 zki1 ?_
    refine g_iadd hK d7_beginOf_48 (fun v1 hv1 => ?_)
    refine g_iald hK (pt_6_from_k hm2) d7_beginOf_49 (fun _ hl2 => ?_)
    refine g_iconst hK d7_beginOf_50 zki0 ?_
    refine g_callVcl hK (mk := mkI) (rm := (rmGC 40)) (cb := 0) (sb := 0) (As := [.int (zi (zI μ ((zR μ 292 8) + 3) (zx (zI μ 292 21)))), .int (zi (zI μ ((zR μ 292 8) + 3) (zx v1))), .int (zi 0)]) (b := 292) (n := 3) (c7_laysBegins 40 K.2.1 hK.2.2.2.2.2.2.2.2.1 Z (zI μ ((zR μ 292 8) + 3) (zx (zI μ 292 21))) (zI μ ((zR μ 292 8) + 3) (zx v1)) 0 μ hl1 hl2 zc0) rfl (ci := 7) rfl (by decide) kc_292 q_1581 q_1583 qs_7_laysBegins q_7 q_1584 rfl (by decide +kernel) (by decide) (Nat.le_of_ble_eq_true rfl) (Nat.le_of_ble_eq_true rfl) (Nat.le_of_ble_eq_true rfl) rfl d7_beginOf_51 (fun r2 m1 hr2 hpr2 => ?_)
    refine g_istore_n hK (lv2 := [(0, .ref (Z.2.2.1 + 292)), (1, .int (zi a1)), (2, .int (zi r2))]) [1, 2, 0] rfl rfl (by decide) d7_beginOf_54 ?_
    refine g_aload_n hK 0 rfl rfl d7_beginOf_55 ?_
    refine g_getR hK zfin_7 (fa_7_34 kc_292) q_1231 (r := 337) (by decide +kernel) d7_beginOf_56 ?_
    refine g_iload_n hK 1 rfl rfl d7_beginOf_59 ?_
    refine g_iald hK kc_337 d7_beginOf_60 (fun _ hl3 => ?_)
    exact g_iret hK hl3 rfl rfl d7_beginOf_61
  · refine g_aload_n hK 0 rfl rfl d7_beginOf_10 ?_
    refine g_getR hK zfin_7 (fa_7_34 kc_292) q_1231 (r := 337) (by decide +kernel) d7_beginOf_11 ?_
    refine g_iload_n hK 2 rfl rfl d7_beginOf_14 ?_
    refine g_iconst hK d7_beginOf_15 zkim1 ?_
    refine g_iast hK zcm1 kc_337 d7_beginOf_16 (fun _ => ?_)
    refine g_ltM (fun m2 => ?_)
    refine g_iinc hK (lv2 := fun v2 => [(0, .ref (Z.2.2.1 + 292)), (1, .int (zi a1)), (2, .int (zi v2))]) 2 rfl [1, 2, 0] (fun _ => rfl) (by decide) d7_beginOf_17 (fun v2 hv2 => ?_)
    refine g_goto hK (tgt := 2) (by decide) d7_beginOf_20 ?_
    exact hk2 v2 m2 hv2
set_option maxRecDepth 20000 in
theorem l7_beginOf_2 {K : zK} {Z : zZ} (hcx : zOk K Z b7_beginOf RX7 3 (some .int) 84 2259 0 0 ∧ ∀ x ∈ K.2.2.2.2.2.2.2.2.2.exceptionTable.toList, False) (a1 : Int) (ha1 : zr a1) : ∀ (i9 : Nat) (x2 : Int) (μ : zM) (hx2 : zr x2), zG K Z (zΩ Z) (zF K Z (zΩ Z) (ze2 mkI)) 0 0 2 [(0, .ref (Z.2.2.1 + 292)), (1, .int (zi a1)), (2, .int (zi x2))] [] μ (zfx (f7_beginOf_2 a1) (fun _ _ => none) i9 x2 μ) := by
  intro i9
  induction i9 with
  | zero => intro x2 μ hx2; exact g_none
  | succ i9 ih => intro x2 μ hx2; exact p7_beginOf_2 hcx a1 ha1  (zfx (f7_beginOf_2 a1) (fun _ _ => none) i9) ih x2 μ hx2
set_option maxRecDepth 20000 in
theorem c7_beginOf (l : Launch) (hst : l.stackTraces = false) (Z : zZ) (a1 : Int) (μ : zM) (ha1 : zr a1) : ∀ x, f7_beginOf a1 μ = some x → zCt l Z (zΩ Z) y7_beginOf (zws (.code y7_beginOf b7_beginOf 3 (some .int))) rm7_beginOf [.ref (Z.2.2.1 + 292), .int (zi a1)] μ (ze2 mkI x) := by
  intro x h
  refine zCt.of (enc := (ze2 mkI)) h (by decide) hst (Nat.le_of_ble_eq_true rfl) (fun K hK0 hex hl _ => ?_)
  subst hl
  have hcx : zOk K Z b7_beginOf RX7 3 (some .int) 84 2259 0 0 ∧ ∀ x ∈ K.2.2.2.2.2.2.2.2.2.exceptionTable.toList, False := ⟨hK0, hex⟩
  have hK := hcx.1
  show zG K Z (zΩ Z) (zF K Z (zΩ Z) (ze2 mkI)) 0 0 0 [(0, .ref (Z.2.2.1 + 292)), (1, .int (zi a1))] [] μ (f7_beginOf a1 μ)
  unfold f7_beginOf
  refine g_iconst hK d7_beginOf_0 zki0 ?_
  refine g_istore_n hK (lv2 := [(0, .ref (Z.2.2.1 + 292)), (1, .int (zi a1)), (2, .int (zi 0))]) [1, 2, 0] rfl rfl (by decide) d7_beginOf_1 ?_
  exact l7_beginOf_2 hcx a1 ha1  zFu 0 μ zc0
set_option maxRecDepth 20000 in
theorem p7_occurrence_56 {K : zK} {Z : zZ} (hcx : zOk K Z b7_occurrence RX7 4 (some .int) 85 2281 0 0 ∧ ∀ x ∈ K.2.2.2.2.2.2.2.2.2.exceptionTable.toList, False) (a1 : Int) (a2 : Int) (ha1 : zr a1) (ha2 : zr a2) (s0 : Int) (μ : zM) (hs0 : zr s0) : zG K Z (zΩ Z) (zF K Z (zΩ Z) (ze2 mkI)) 0 0 56 [(0, .ref (Z.2.2.1 + 292)), (1, .int (zi a1)), (2, .int (zi a2))] [.int (zi s0), .ref (Z.2.2.1 + 292)] μ (f7_occurrence_56 a1 a2 s0 μ) := by
  obtain ⟨hK, hex⟩ := id hcx
  unfold f7_occurrence_56
  refine g_iconst hK d7_occurrence_56 zki3 ?_
  refine g_callVcl hK (mk := mkZ) (rm := rm7_throwsIf) (cb := 0) (sb := 0) (As := [.int (zi s0), .int (zi 3)]) (b := 292) (n := 2) (c7_throwsIf K.2.1 hK.2.2.2.2.2.2.2.2.1 Z s0 3 μ hs0 zc3) rfl (ci := 7) rfl (by decide) kc_292 q_1317 q_1319 qs_7_throwsIf q_7 q_1320 rfl (by decide +kernel) (by decide) (Nat.le_of_ble_eq_true rfl) (Nat.le_of_ble_eq_true rfl) (Nat.le_of_ble_eq_true rfl) rfl d7_occurrence_57 (fun r6 m4 hr6 hpr6 => ?_)
  refine g_if_eq hK (zb_r r6) (tgt := 65) (by decide) d7_occurrence_60 (fun _ => ?_) (fun _ => ?_)
  · refine g_aload_n hK 0 rfl rfl d7_occurrence_65 ?_
    refine g_iload_n hK 1 rfl rfl d7_occurrence_66 ?_
    refine g_callVco hK (mk := mkI) (rm := rm7_of) (cb := 0) (sb := 0) (As := [.int (zi a1)]) (b := 292) (n := 1) (c7_of K.2.1 hK.2.2.2.2.2.2.2.2.1 Z a1 m4 ha1) rfl (ci := 7) rfl (by decide) kc_292 q_1479 q_1481 qs_7_of q_7 q_1482 rfl (by decide +kernel) (by decide) (Nat.le_of_ble_eq_true rfl) (Nat.le_of_ble_eq_true rfl) (Nat.le_of_ble_eq_true rfl) rfl d7_occurrence_67 (fun r7 hr7 hpr7 => ?_)
    refine g_istore_n hK (lv2 := [(0, .ref (Z.2.2.1 + 292)), (1, .int (zi a1)), (2, .int (zi a2)), (3, .int (zi r7))]) [1, 2, 3, 0] rfl rfl (by decide) d7_occurrence_70 ?_
    refine g_iload_n hK 2 rfl rfl d7_occurrence_71 ?_
    refine g_case (fun hs0 => ?_) (fun hs0 => ?_)
    · refine g_tabIn hK (v := 0) (tgt := 116) ha2 hs0 (by decide) (by decide) rfl (by decide) d7_occurrence_72 ?_
      refine g_aload_n hK 0 rfl rfl d7_occurrence_116 ?_
      refine g_getM hK zfin_7 (fa_7_8 kc_292) q_1205 (w := 6) (by decide) d7_occurrence_117 (fun hm1 => ?_)
      refine g_getRN hK zfin_6 (fa_6_7 hm1) qn_1151 (pt_6_field hm1) d7_occurrence_120 ?_
      refine g_iload_n hK 3 rfl rfl d7_occurrence_123 ?_
      refine g_iald hK (pt_6_field_k hm1) d7_occurrence_124 (fun _ hl1 => ?_)
      exact g_iret hK hl1 rfl rfl d7_occurrence_125
    refine g_case (fun hs1 => ?_) (fun hs1 => ?_)
    · refine g_tabIn hK (v := 1) (tgt := 126) ha2 hs1 (by decide) (by decide) rfl (by decide) d7_occurrence_72 ?_
      refine g_aload_n hK 0 rfl rfl d7_occurrence_126 ?_
      refine g_getM hK zfin_7 (fa_7_8 kc_292) q_1205 (w := 6) (by decide) d7_occurrence_127 (fun hm2 => ?_)
      refine g_getRN hK zfin_6 (fa_6_8 hm2) qn_1153 (pt_6_change hm2) d7_occurrence_130 ?_
      refine g_iload_n hK 3 rfl rfl d7_occurrence_133 ?_
      refine g_iald hK (pt_6_change_k hm2) d7_occurrence_134 (fun _ hl2 => ?_)
      exact g_iret hK hl2 rfl rfl d7_occurrence_135
    refine g_case (fun hs2 => ?_) (fun hs2 => ?_)
    · refine g_tabIn hK (v := 2) (tgt := 136) ha2 hs2 (by decide) (by decide) rfl (by decide) d7_occurrence_72 ?_
      refine g_aload_n hK 0 rfl rfl d7_occurrence_136 ?_
      refine g_getM hK zfin_7 (fa_7_8 kc_292) q_1205 (w := 6) (by decide) d7_occurrence_137 (fun hm3 => ?_)
      refine g_getRN hK zfin_6 (fa_6_9 hm3) qn_1155 (pt_6_hasDefault hm3) d7_occurrence_140 ?_
      refine g_iload_n hK 3 rfl rfl d7_occurrence_143 ?_
      refine g_zald hK (pt_6_hasDefault_k hm3) d7_occurrence_144 (fun _ hl3 => ?_)
      refine g_if_eq hK hl3 (tgt := 152) (by decide) d7_occurrence_145 (fun _ => ?_) (fun _ => ?_)
      · refine g_iconst hK d7_occurrence_152 zki0 ?_
        exact g_iret hK zc0 rfl rfl d7_occurrence_153
      · refine g_iconst hK d7_occurrence_148 zki1 ?_
        refine g_goto hK (tgt := 153) (by decide) d7_occurrence_149 ?_
        exact g_iret hK zc1 rfl rfl d7_occurrence_153
    refine g_case (fun hs3 => ?_) (fun hs3 => ?_)
    · refine g_tabIn hK (v := 3) (tgt := 154) ha2 hs3 (by decide) (by decide) rfl (by decide) d7_occurrence_72 ?_
      refine g_aload_n hK 0 rfl rfl d7_occurrence_154 ?_
      refine g_getM hK zfin_7 (fa_7_8 kc_292) q_1205 (w := 6) (by decide) d7_occurrence_155 (fun hm4 => ?_)
      refine g_getRN hK zfin_6 (fa_6_10 hm4) qn_1157 (pt_6_parent hm4) d7_occurrence_158 ?_
      refine g_iload_n hK 3 rfl rfl d7_occurrence_161 ?_
      refine g_iald hK (pt_6_parent_k hm4) d7_occurrence_162 (fun _ hl4 => ?_)
      exact g_iret hK hl4 rfl rfl d7_occurrence_163
    refine g_case (fun hs4 => ?_) (fun hs4 => ?_)
    · refine g_tabIn hK (v := 4) (tgt := 164) ha2 hs4 (by decide) (by decide) rfl (by decide) d7_occurrence_72 ?_
      refine g_aload_n hK 0 rfl rfl d7_occurrence_164 ?_
      refine g_getR hK zfin_7 (fa_7_23 kc_292) q_1220 (r := 329) (by decide +kernel) d7_occurrence_165 ?_
      refine g_iload_n hK 1 rfl rfl d7_occurrence_168 ?_
      refine g_zald hK kc_329 d7_occurrence_169 (fun _ hl5 => ?_)
      refine g_if_eq hK hl5 (tgt := 177) (by decide) d7_occurrence_170 (fun _ => ?_) (fun _ => ?_)
      · refine g_iconst hK d7_occurrence_177 zki0 ?_
        exact g_iret hK zc0 rfl rfl d7_occurrence_178
      · refine g_iconst hK d7_occurrence_173 zki1 ?_
        refine g_goto hK (tgt := 178) (by decide) d7_occurrence_174 ?_
        exact g_iret hK zc1 rfl rfl d7_occurrence_178
    refine g_case (fun hs5 => ?_) (fun hs5 => ?_)
    · refine g_tabIn hK (v := 5) (tgt := 179) ha2 hs5 (by decide) (by decide) rfl (by decide) d7_occurrence_72 ?_
      refine g_aload_n hK 0 rfl rfl d7_occurrence_179 ?_
      refine g_getR hK zfin_7 (fa_7_24 kc_292) q_1221 (r := 330) (by decide +kernel) d7_occurrence_180 ?_
      refine g_iload_n hK 1 rfl rfl d7_occurrence_183 ?_
      refine g_zald hK kc_330 d7_occurrence_184 (fun _ hl6 => ?_)
      refine g_if_eq hK hl6 (tgt := 192) (by decide) d7_occurrence_185 (fun _ => ?_) (fun _ => ?_)
      · refine g_iconst hK d7_occurrence_192 zki0 ?_
        exact g_iret hK zc0 rfl rfl d7_occurrence_193
      · refine g_iconst hK d7_occurrence_188 zki1 ?_
        refine g_goto hK (tgt := 193) (by decide) d7_occurrence_189 ?_
        exact g_iret hK zc1 rfl rfl d7_occurrence_193
    refine g_case (fun hs6 => ?_) (fun hs6 => ?_)
    · refine g_tabIn hK (v := 6) (tgt := 194) ha2 hs6 (by decide) (by decide) rfl (by decide) d7_occurrence_72 ?_
      refine g_aload_n hK 0 rfl rfl d7_occurrence_194 ?_
      refine g_iload_n hK 1 rfl rfl d7_occurrence_195 ?_
      refine g_callVcl hK (mk := mkI) (rm := (rmGA 40)) (cb := 0) (sb := 0) (As := [.int (zi a1)]) (b := 292) (n := 1) (c7_lengthAt 40 K.2.1 hK.2.2.2.2.2.2.2.2.1 Z a1 m4 ha1) rfl (ci := 7) rfl (by decide) kc_292 q_1495 q_1497 qs_7_lengthAt q_7 q_1498 rfl (by decide +kernel) (by decide) (Nat.le_of_ble_eq_true rfl) (Nat.le_of_ble_eq_true rfl) (Nat.le_of_ble_eq_true rfl) rfl d7_occurrence_196 (fun r8 m5 hr8 hpr8 => ?_)
      exact g_iret hK hpr8 rfl rfl d7_occurrence_199
    refine g_tabOut hK (tgt := 200) ha2 (by omega) (by decide) d7_occurrence_72 ?_
    refine g_aload_n hK 0 rfl rfl d7_occurrence_200 ?_
    refine g_iload_n hK 1 rfl rfl d7_occurrence_201 ?_
    refine g_callVcl hK (mk := mkI) (rm := rm7_beginOf) (cb := 0) (sb := 0) (As := [.int (zi a1)]) (b := 292) (n := 1) (c7_beginOf K.2.1 hK.2.2.2.2.2.2.2.2.1 Z a1 m4 ha1) rfl (ci := 7) rfl (by decide) kc_292 q_1577 q_1579 qs_7_beginOf q_7 q_1580 rfl (by decide +kernel) (by decide) (Nat.le_of_ble_eq_true rfl) (Nat.le_of_ble_eq_true rfl) (Nat.le_of_ble_eq_true rfl) rfl d7_occurrence_202 (fun r9 m6 hr9 hpr9 => ?_)
    exact g_iret hK hpr9 rfl rfl d7_occurrence_205
  · refine g_iconst hK d7_occurrence_63 zki0 ?_
    exact g_iret hK zc0 rfl rfl d7_occurrence_64
set_option maxRecDepth 20000 in
theorem p7_occurrence_33 {K : zK} {Z : zZ} (hcx : zOk K Z b7_occurrence RX7 4 (some .int) 85 2281 0 0 ∧ ∀ x ∈ K.2.2.2.2.2.2.2.2.2.exceptionTable.toList, False) (a1 : Int) (a2 : Int) (ha1 : zr a1) (ha2 : zr a2) (s0 : Int) (μ : zM) (hs0 : zr s0) : zG K Z (zΩ Z) (zF K Z (zΩ Z) (ze2 mkI)) 0 0 33 [(0, .ref (Z.2.2.1 + 292)), (1, .int (zi a1)), (2, .int (zi a2))] [.int (zi s0), .ref (Z.2.2.1 + 292)] μ (f7_occurrence_33 a1 a2 s0 μ) := by
  obtain ⟨hK, hex⟩ := id hcx
  unfold f7_occurrence_33
  refine g_iconst hK d7_occurrence_33 zki2 ?_
  refine g_callVcl hK (mk := mkZ) (rm := rm7_throwsIf) (cb := 0) (sb := 0) (As := [.int (zi s0), .int (zi 2)]) (b := 292) (n := 2) (c7_throwsIf K.2.1 hK.2.2.2.2.2.2.2.2.1 Z s0 2 μ hs0 zc2) rfl (ci := 7) rfl (by decide) kc_292 q_1317 q_1319 qs_7_throwsIf q_7 q_1320 rfl (by decide +kernel) (by decide) (Nat.le_of_ble_eq_true rfl) (Nat.le_of_ble_eq_true rfl) (Nat.le_of_ble_eq_true rfl) rfl d7_occurrence_34 (fun r4 m3 hr4 hpr4 => ?_)
  refine g_if_ne hK (zb_r r4) (tgt := 63) (by decide) d7_occurrence_37 (fun _ => ?_) (fun _ => ?_)
  · refine g_iconst hK d7_occurrence_63 zki0 ?_
    exact g_iret hK zc0 rfl rfl d7_occurrence_64
  · refine g_aload_n hK 0 rfl rfl d7_occurrence_40 ?_
    refine g_iload_n hK 2 rfl rfl d7_occurrence_41 ?_
    refine g_iconst hK d7_occurrence_42 zki0 ?_
    refine g_bipush hK d7_occurrence_43 zkb7 ?_
    refine g_callSco hK (mk := mkZ) (rm := rm7_within) (cb := 0) (sb := 0) (As := [.int (zi a2), .int (zi 0), .int (zi 7)]) (n := 3) (c7_within K.2.1 hK.2.2.2.2.2.2.2.2.1 Z a2 0 7 m3 ha2 zc0 zc7) q_1344 q_1345 q_7 q_1346 rfl (by decide +kernel) (by decide) (Nat.le_of_ble_eq_true rfl) (Nat.le_of_ble_eq_true rfl) (Nat.le_of_ble_eq_true rfl) rfl d7_occurrence_45 (fun r5 hr5 hpr5 => ?_)
    refine g_if_ne hK (zb_r r5) (tgt := 55) (by decide) d7_occurrence_48 (fun _ => ?_) (fun _ => ?_)
    · refine g_iconst hK d7_occurrence_55 zki0 ?_
      exact p7_occurrence_56 hcx a1 a2 ha1 ha2  0 m3 zc0
    · refine g_iconst hK d7_occurrence_51 zki1 ?_
      refine g_goto hK (tgt := 56) (by decide) d7_occurrence_52 ?_
      exact p7_occurrence_56 hcx a1 a2 ha1 ha2  1 m3 zc1
set_option maxRecDepth 20000 in
theorem c7_occurrence (l : Launch) (hst : l.stackTraces = false) (Z : zZ) (a1 : Int) (a2 : Int) (μ : zM) (ha1 : zr a1) (ha2 : zr a2) : ∀ x, f7_occurrence a1 a2 μ = some x → zCt l Z (zΩ Z) y7_occurrence (zws (.code y7_occurrence b7_occurrence 4 (some .int))) rm7_occurrence [.ref (Z.2.2.1 + 292), .int (zi a1), .int (zi a2)] μ (ze2 mkI x) := by
  intro x h
  refine zCt.of (enc := (ze2 mkI)) h (by decide) hst (Nat.le_of_ble_eq_true rfl) (fun K hK0 hex hl _ => ?_)
  subst hl
  have hcx : zOk K Z b7_occurrence RX7 4 (some .int) 85 2281 0 0 ∧ ∀ x ∈ K.2.2.2.2.2.2.2.2.2.exceptionTable.toList, False := ⟨hK0, hex⟩
  have hK := hcx.1
  show zG K Z (zΩ Z) (zF K Z (zΩ Z) (ze2 mkI)) 0 0 0 [(0, .ref (Z.2.2.1 + 292)), (1, .int (zi a1)), (2, .int (zi a2))] [] μ (f7_occurrence a1 a2 μ)
  unfold f7_occurrence
  refine g_aload_n hK 0 rfl rfl d7_occurrence_0 ?_
  refine g_iconst hK d7_occurrence_1 zki0 ?_
  refine g_putI hK zfin_7 (fa_7_0 kc_292) q_1197 zc0 rfl (tyX7_ok 0 (by decide)) tyX7 tyX7_ok nmX7 d7_occurrence_2 ?_
  refine g_ltM (fun m1 => ?_)
  refine g_aload_n hK 0 rfl rfl d7_occurrence_5 ?_
  refine g_iconst hK d7_occurrence_6 zki1 ?_
  refine g_callVcl hK (mk := mkZ) (rm := rm7_noSession) (cb := 0) (sb := 0) (As := [.int (zi 1)]) (b := 292) (n := 1) (c7_noSession K.2.1 hK.2.2.2.2.2.2.2.2.1 Z 1 m1 zc1) rfl (ci := 7) rfl (by decide) kc_292 q_1518 q_1520 qs_7_noSession q_7 q_1521 rfl (by decide +kernel) (by decide) (Nat.le_of_ble_eq_true rfl) (Nat.le_of_ble_eq_true rfl) (Nat.le_of_ble_eq_true rfl) rfl d7_occurrence_7 (fun r1 m2 hr1 hpr1 => ?_)
  refine g_if_ne hK (zb_r r1) (tgt := 63) (by decide) d7_occurrence_10 (fun _ => ?_) (fun _ => ?_)
  · refine g_iconst hK d7_occurrence_63 zki0 ?_
    exact g_iret hK zc0 rfl rfl d7_occurrence_64
  · refine g_aload_n hK 0 rfl rfl d7_occurrence_13 ?_
    refine g_iload_n hK 1 rfl rfl d7_occurrence_14 ?_
    refine g_iconst hK d7_occurrence_15 zki0 ?_
    refine g_aload_n hK 0 rfl rfl d7_occurrence_16 ?_
    refine g_callVco hK (mk := mkI) (rm := rm7_many) (cb := 0) (sb := 0) (As := []) (b := 292) (n := 0) (c7_many K.2.1 hK.2.2.2.2.2.2.2.2.1 Z  m2 ) rfl (ci := 7) rfl (by decide) kc_292 q_1475 q_1477 qs_7_many q_7 q_1478 rfl (by decide +kernel) (by decide) (Nat.le_of_ble_eq_true rfl) (Nat.le_of_ble_eq_true rfl) (Nat.le_of_ble_eq_true rfl) rfl d7_occurrence_17 (fun r2 hr2 hpr2 => ?_)
    refine g_iconst hK d7_occurrence_20 zki1 ?_
    refine g_isub hK d7_occurrence_21 (fun v1 hv1 => ?_)
    refine g_callSco hK (mk := mkZ) (rm := rm7_within) (cb := 0) (sb := 0) (As := [.int (zi a1), .int (zi 0), .int (zi v1)]) (n := 3) (c7_within K.2.1 hK.2.2.2.2.2.2.2.2.1 Z a1 0 v1 m2 ha1 zc0 hv1) q_1344 q_1345 q_7 q_1346 rfl (by decide +kernel) (by decide) (Nat.le_of_ble_eq_true rfl) (Nat.le_of_ble_eq_true rfl) (Nat.le_of_ble_eq_true rfl) rfl d7_occurrence_22 (fun r3 hr3 hpr3 => ?_)
    refine g_if_ne hK (zb_r r3) (tgt := 32) (by decide) d7_occurrence_25 (fun _ => ?_) (fun _ => ?_)
    · refine g_iconst hK d7_occurrence_32 zki0 ?_
      exact p7_occurrence_33 hcx a1 a2 ha1 ha2  0 m2 zc0
    · refine g_iconst hK d7_occurrence_28 zki1 ?_
      refine g_goto hK (tgt := 33) (by decide) d7_occurrence_29 ?_
      exact p7_occurrence_33 hcx a1 a2 ha1 ha2  1 m2 zc1
set_option maxRecDepth 20000 in
theorem c7_text (l : Launch) (hst : l.stackTraces = false) (Z : zZ) (a1 : Int) (μ : zM) (ha1 : zr a1) : ∀ x, f7_text a1 μ = some x → zCt l Z (zΩ Z) y7_text (zws (.code y7_text b7_text 2 (some .int))) rm7_text [.ref (Z.2.2.1 + 292), .int (zi a1)] μ (ze2 mkI x) := by
  intro x h
  refine zCt.of (enc := (ze2 mkI)) h (by decide) hst (Nat.le_of_ble_eq_true rfl) (fun K hK0 hex hl _ => ?_)
  subst hl
  have hcx : zOk K Z b7_text RX7 2 (some .int) 85 2198 0 0 ∧ ∀ x ∈ K.2.2.2.2.2.2.2.2.2.exceptionTable.toList, False := ⟨hK0, hex⟩
  have hK := hcx.1
  show zG K Z (zΩ Z) (zF K Z (zΩ Z) (ze2 mkI)) 0 0 0 [(0, .ref (Z.2.2.1 + 292)), (1, .int (zi a1))] [] μ (f7_text a1 μ)
  unfold f7_text
  refine g_aload_n hK 0 rfl rfl d7_text_0 ?_
  refine g_iconst hK d7_text_1 zki0 ?_
  refine g_putI hK zfin_7 (fa_7_0 kc_292) q_1197 zc0 rfl (tyX7_ok 0 (by decide)) tyX7 tyX7_ok nmX7 d7_text_2 ?_
  refine g_ltM (fun m1 => ?_)
  refine g_aload_n hK 0 rfl rfl d7_text_5 ?_
  refine g_iconst hK d7_text_6 zki1 ?_
  refine g_callVcl hK (mk := mkZ) (rm := rm7_noSession) (cb := 0) (sb := 0) (As := [.int (zi 1)]) (b := 292) (n := 1) (c7_noSession K.2.1 hK.2.2.2.2.2.2.2.2.1 Z 1 m1 zc1) rfl (ci := 7) rfl (by decide) kc_292 q_1518 q_1520 qs_7_noSession q_7 q_1521 rfl (by decide +kernel) (by decide) (Nat.le_of_ble_eq_true rfl) (Nat.le_of_ble_eq_true rfl) (Nat.le_of_ble_eq_true rfl) rfl d7_text_7 (fun r1 m2 hr1 hpr1 => ?_)
  refine g_if_eq hK (zb_r r1) (tgt := 15) (by decide) d7_text_10 (fun _ => ?_) (fun _ => ?_)
  · refine g_aload_n hK 0 rfl rfl d7_text_15 ?_
    refine g_callVcm hK (rm := rm7_writesText) (cb := 0) (sb := 0) (As := []) (b := 292) (n := 0) (c7_writesText K.2.1 hK.2.2.2.2.2.2.2.2.1 Z  m2 ) rfl (ci := 7) rfl (by decide) kc_292 q_1589 q_1591 qs_7_writesText q_7 q_1592 rfl (by decide +kernel) (by decide) (Nat.le_of_ble_eq_true rfl) (Nat.le_of_ble_eq_true rfl) (Nat.le_of_ble_eq_true rfl) rfl d7_text_16 (fun m3 hm3 => ?_)
    refine g_iload_n hK 1 rfl rfl d7_text_19 ?_
    refine g_iconst hK d7_text_20 zki0 ?_
    refine g_aload_n hK 0 rfl rfl d7_text_21 ?_
    refine g_getI hK zfin_7 (fa_7_29 kc_292) q_1226 d7_text_22 (fun hf1 => ?_)
    refine g_iconst hK d7_text_25 zki1 ?_
    refine g_isub hK d7_text_26 (fun v1 hv1 => ?_)
    refine g_callSco hK (mk := mkZ) (rm := rm7_within) (cb := 0) (sb := 0) (As := [.int (zi a1), .int (zi 0), .int (zi v1)]) (n := 3) (c7_within K.2.1 hK.2.2.2.2.2.2.2.2.1 Z a1 0 v1 m3 ha1 zc0 hv1) q_1344 q_1345 q_7 q_1346 rfl (by decide +kernel) (by decide) (Nat.le_of_ble_eq_true rfl) (Nat.le_of_ble_eq_true rfl) (Nat.le_of_ble_eq_true rfl) rfl d7_text_27 (fun r2 hr2 hpr2 => ?_)
    refine g_if_eq hK (zb_r r2) (tgt := 42) (by decide) d7_text_30 (fun _ => ?_) (fun _ => ?_)
    · refine g_iconst hK d7_text_42 zkim1 ?_
      exact g_iret hK zcm1 rfl rfl d7_text_43
    · refine g_aload_n hK 0 rfl rfl d7_text_33 ?_
      refine g_getR hK zfin_7 (fa_7_28 kc_292) q_1225 (r := 333) (by decide +kernel) d7_text_34 ?_
      refine g_iload_n hK 1 rfl rfl d7_text_37 ?_
      refine g_iald hK kc_333 d7_text_38 (fun _ hl1 => ?_)
      refine g_goto hK (tgt := 43) (by decide) d7_text_39 ?_
      exact g_iret hK hl1 rfl rfl d7_text_43
  · refine g_iconst hK d7_text_13 zki0 ?_
    exact g_iret hK zc0 rfl rfl d7_text_14
set_option maxRecDepth 20000 in
theorem c7_orderAt (l : Launch) (hst : l.stackTraces = false) (Z : zZ) (a1 : Int) (μ : zM) (ha1 : zr a1) : ∀ x, f7_orderAt a1 μ = some x → zCt l Z (zΩ Z) y7_orderAt (zws (.code y7_orderAt b7_orderAt 2 (some .int))) rm7_orderAt [.ref (Z.2.2.1 + 292), .int (zi a1)] μ (ze2 mkI x) := by
  intro x h
  refine zCt.of (enc := (ze2 mkI)) h (by decide) hst (Nat.le_of_ble_eq_true rfl) (fun K hK0 hex hl _ => ?_)
  subst hl
  have hcx : zOk K Z b7_orderAt RX7 2 (some .int) 5 115 0 0 ∧ ∀ x ∈ K.2.2.2.2.2.2.2.2.2.exceptionTable.toList, False := ⟨hK0, hex⟩
  have hK := hcx.1
  show zG K Z (zΩ Z) (zF K Z (zΩ Z) (ze2 mkI)) 0 0 0 [(0, .ref (Z.2.2.1 + 292)), (1, .int (zi a1))] [] μ (f7_orderAt a1 μ)
  unfold f7_orderAt
  refine g_aload_n hK 0 rfl rfl d7_orderAt_0 ?_
  refine g_iconst hK d7_orderAt_1 zki0 ?_
  refine g_putI hK zfin_7 (fa_7_0 kc_292) q_1197 zc0 rfl (tyX7_ok 0 (by decide)) tyX7 tyX7_ok nmX7 d7_orderAt_2 ?_
  refine g_ltM (fun m1 => ?_)
  refine g_aload_n hK 0 rfl rfl d7_orderAt_5 ?_
  refine g_iconst hK d7_orderAt_6 zki1 ?_
  refine g_callVcl hK (mk := mkZ) (rm := rm7_noSession) (cb := 0) (sb := 0) (As := [.int (zi 1)]) (b := 292) (n := 1) (c7_noSession K.2.1 hK.2.2.2.2.2.2.2.2.1 Z 1 m1 zc1) rfl (ci := 7) rfl (by decide) kc_292 q_1518 q_1520 qs_7_noSession q_7 q_1521 rfl (by decide +kernel) (by decide) (Nat.le_of_ble_eq_true rfl) (Nat.le_of_ble_eq_true rfl) (Nat.le_of_ble_eq_true rfl) rfl d7_orderAt_7 (fun r1 m2 hr1 hpr1 => ?_)
  refine g_if_eq hK (zb_r r1) (tgt := 15) (by decide) d7_orderAt_10 (fun _ => ?_) (fun _ => ?_)
  · refine g_aload_n hK 0 rfl rfl d7_orderAt_15 ?_
    refine g_callVcm hK (rm := rm7_laysLeaving) (cb := 0) (sb := 0) (As := []) (b := 292) (n := 0) (c7_laysLeaving K.2.1 hK.2.2.2.2.2.2.2.2.1 Z  m2 ) rfl (ci := 7) rfl (by decide) kc_292 q_1522 q_1524 qs_7_laysLeaving q_7 q_1525 rfl (by decide +kernel) (by decide) (Nat.le_of_ble_eq_true rfl) (Nat.le_of_ble_eq_true rfl) (Nat.le_of_ble_eq_true rfl) rfl d7_orderAt_16 (fun m3 hm3 => ?_)
    refine g_iload_n hK 1 rfl rfl d7_orderAt_19 ?_
    refine g_iconst hK d7_orderAt_20 zki0 ?_
    refine g_aload_n hK 0 rfl rfl d7_orderAt_21 ?_
    refine g_getI hK zfin_7 (fa_7_33 kc_292) q_1230 d7_orderAt_22 (fun hf1 => ?_)
    refine g_iconst hK d7_orderAt_25 zki1 ?_
    refine g_isub hK d7_orderAt_26 (fun v1 hv1 => ?_)
    refine g_callSco hK (mk := mkZ) (rm := rm7_within) (cb := 0) (sb := 0) (As := [.int (zi a1), .int (zi 0), .int (zi v1)]) (n := 3) (c7_within K.2.1 hK.2.2.2.2.2.2.2.2.1 Z a1 0 v1 m3 ha1 zc0 hv1) q_1344 q_1345 q_7 q_1346 rfl (by decide +kernel) (by decide) (Nat.le_of_ble_eq_true rfl) (Nat.le_of_ble_eq_true rfl) (Nat.le_of_ble_eq_true rfl) rfl d7_orderAt_27 (fun r2 hr2 hpr2 => ?_)
    refine g_if_eq hK (zb_r r2) (tgt := 42) (by decide) d7_orderAt_30 (fun _ => ?_) (fun _ => ?_)
    · refine g_iconst hK d7_orderAt_42 zkim1 ?_
      exact g_iret hK zcm1 rfl rfl d7_orderAt_43
    · refine g_aload_n hK 0 rfl rfl d7_orderAt_33 ?_
      refine g_getR hK zfin_7 (fa_7_32 kc_292) q_1229 (r := 336) (by decide +kernel) d7_orderAt_34 ?_
      refine g_iload_n hK 1 rfl rfl d7_orderAt_37 ?_
      refine g_iald hK kc_336 d7_orderAt_38 (fun _ hl1 => ?_)
      refine g_goto hK (tgt := 43) (by decide) d7_orderAt_39 ?_
      exact g_iret hK hl1 rfl rfl d7_orderAt_43
  · refine g_iconst hK d7_orderAt_13 zki0 ?_
    exact g_iret hK zc0 rfl rfl d7_orderAt_14
set_option maxRecDepth 20000 in
theorem p7_whyOf_107 {K : zK} {Z : zZ} (hcx : zOk K Z b7_whyOf RX7 5 (some .int) 2 52 0 0 ∧ ∀ x ∈ K.2.2.2.2.2.2.2.2.2.exceptionTable.toList, False) (a1 : Int) (μ : zM) (ha1 : zr a1) (k27 : Int → Int → Option Int) (hk27 : ∀ (x2 : Int) (x3 : Int) (hx2 : zr x2) (hx3 : zr x3), zG K Z (zΩ Z) (zF K Z (zΩ Z) (zeP mkI μ)) 0 0 27 [(0, .ref (Z.2.2.1 + 292)), (1, .int (zi a1)), (2, .int (zi x2)), (3, .int (zi x3))] [] μ (k27 x2 x3)) (x3 : Int) (s0 : Int) (s1 : Int) (hx3 : zr x3) (hs0 : zr s0) (hs1 : zr s1) : zG K Z (zΩ Z) (zF K Z (zΩ Z) (zeP mkI μ)) 0 0 107 [(0, .ref (Z.2.2.1 + 292)), (1, .int (zi a1)), (3, .int (zi x3))] [.int (zi s0), .int (zi s1)] μ (f7_whyOf_107 a1 μ k27 x3 s0 s1) := by
  obtain ⟨hK, hex⟩ := id hcx
  unfold f7_whyOf_107
  refine g_mmin hK hs1 hs0 q_1605 q_333 q_13 q_334 (by decide) (Nat.le_of_ble_eq_true rfl) d7_whyOf_107 (fun v4 hv4 => ?_)
  refine g_istore_n hK (lv2 := [(0, .ref (Z.2.2.1 + 292)), (1, .int (zi a1)), (2, .int (zi v4)), (3, .int (zi x3))]) [1, 2, 0, 3] rfl rfl (by decide) d7_whyOf_110 ?_
  refine g_iinc hK (lv2 := fun v5 => [(0, .ref (Z.2.2.1 + 292)), (1, .int (zi a1)), (2, .int (zi v4)), (3, .int (zi v5))]) 3 rfl [1, 2, 3, 0] (fun _ => rfl) (by decide) d7_whyOf_111 (fun v5 hv5 => ?_)
  refine g_goto hK (tgt := 27) (by decide) d7_whyOf_114 ?_
  exact hk27 v4 v5  hv4 hv5
set_option maxRecDepth 20000 in
theorem p7_whyOf_27 {K : zK} {Z : zZ} (hcx : zOk K Z b7_whyOf RX7 5 (some .int) 2 52 0 0 ∧ ∀ x ∈ K.2.2.2.2.2.2.2.2.2.exceptionTable.toList, False) (a1 : Int) (μ : zM) (ha1 : zr a1) (k27 : Int → Int → Option Int) (hk27 : ∀ (x2 : Int) (x3 : Int) (hx2 : zr x2) (hx3 : zr x3), zG K Z (zΩ Z) (zF K Z (zΩ Z) (zeP mkI μ)) 0 0 27 [(0, .ref (Z.2.2.1 + 292)), (1, .int (zi a1)), (2, .int (zi x2)), (3, .int (zi x3))] [] μ (k27 x2 x3)) (x2 : Int) (x3 : Int) (hx2 : zr x2) (hx3 : zr x3) : zG K Z (zΩ Z) (zF K Z (zΩ Z) (zeP mkI μ)) 0 0 27 [(0, .ref (Z.2.2.1 + 292)), (1, .int (zi a1)), (2, .int (zi x2)), (3, .int (zi x3))] [] μ (f7_whyOf_27 a1 μ k27 x2 x3) := by
  obtain ⟨hK, hex⟩ := id hcx
  unfold f7_whyOf_27
  refine g_iload_n hK 3 rfl rfl d7_whyOf_27 ?_
  refine g_aload_n hK 0 rfl rfl d7_whyOf_28 ?_
  refine g_callVco hK (mk := mkI) (rm := rm7_many) (cb := 0) (sb := 0) (As := []) (b := 292) (n := 0) (c7_many K.2.1 hK.2.2.2.2.2.2.2.2.1 Z  μ ) rfl (ci := 7) rfl (by decide) kc_292 q_1475 q_1477 qs_7_many q_7 q_1478 rfl (by decide +kernel) (by decide) (Nat.le_of_ble_eq_true rfl) (Nat.le_of_ble_eq_true rfl) (Nat.le_of_ble_eq_true rfl) rfl d7_whyOf_29 (fun r3 hr3 hpr3 => ?_)
  refine g_icmp_ge hK hx3 hpr3 (tgt := 117) (by decide) d7_whyOf_32 (fun _ => ?_) (fun _ => ?_)
  · refine g_iload_n hK 2 rfl rfl d7_whyOf_117 ?_
    exact g_iret hK hx2 rfl rfl d7_whyOf_118
  · refine g_aload_n hK 0 rfl rfl d7_whyOf_35 ?_
    refine g_getM hK zfin_7 (fa_7_8 kc_292) q_1205 (w := 6) (by decide) d7_whyOf_36 (fun hm1 => ?_)
    refine g_getRN hK zfin_6 (fa_6_10 hm1) qn_1157 (pt_6_parent hm1) d7_whyOf_39 ?_
    refine g_aload_n hK 0 rfl rfl d7_whyOf_42 ?_
    refine g_iload_n hK 3 rfl rfl d7_whyOf_43 ?_
    refine g_callVco hK (mk := mkI) (rm := rm7_of) (cb := 0) (sb := 0) (As := [.int (zi x3)]) (b := 292) (n := 1) (c7_of K.2.1 hK.2.2.2.2.2.2.2.2.1 Z x3 μ hx3) rfl (ci := 7) rfl (by decide) kc_292 q_1479 q_1481 qs_7_of q_7 q_1482 rfl (by decide +kernel) (by decide) (Nat.le_of_ble_eq_true rfl) (Nat.le_of_ble_eq_true rfl) (Nat.le_of_ble_eq_true rfl) rfl d7_whyOf_44 (fun r4 hr4 hpr4 => ?_)
    refine g_iald hK (pt_6_parent_k hm1) d7_whyOf_47 (fun _ hl1 => ?_)
    refine g_ltI hl1 (fun v1 hv1 => ?_)
    refine g_istore hK (lv2 := [(0, .ref (Z.2.2.1 + 292)), (1, .int (zi a1)), (2, .int (zi x2)), (3, .int (zi x3)), (4, .int (zi v1))]) [1, 2, 3, 4, 0] rfl (by decide) d7_whyOf_48 ?_
    refine g_aload_n hK 0 rfl rfl d7_whyOf_50 ?_
    refine g_getM hK zfin_7 (fa_7_8 kc_292) q_1205 (w := 6) (by decide) d7_whyOf_51 (fun hm2 => ?_)
    refine g_getRN hK zfin_6 (fa_6_7 hm2) qn_1151 (pt_6_field hm2) d7_whyOf_54 ?_
    refine g_aload_n hK 0 rfl rfl d7_whyOf_57 ?_
    refine g_iload_n hK 3 rfl rfl d7_whyOf_58 ?_
    refine g_callVco hK (mk := mkI) (rm := rm7_of) (cb := 0) (sb := 0) (As := [.int (zi x3)]) (b := 292) (n := 1) (c7_of K.2.1 hK.2.2.2.2.2.2.2.2.1 Z x3 μ hx3) rfl (ci := 7) rfl (by decide) kc_292 q_1479 q_1481 qs_7_of q_7 q_1482 rfl (by decide +kernel) (by decide) (Nat.le_of_ble_eq_true rfl) (Nat.le_of_ble_eq_true rfl) (Nat.le_of_ble_eq_true rfl) rfl d7_whyOf_59 (fun r5 hr5 hpr5 => ?_)
    refine g_iald hK (pt_6_field_k hm2) d7_whyOf_62 (fun _ hl2 => ?_)
    refine g_iload_n hK 1 rfl rfl d7_whyOf_63 ?_
    refine g_icmp_ne hK hl2 ha1 (tgt := 111) (by decide) d7_whyOf_64 (fun _ => ?_) (fun _ => ?_)
    · refine g_iinc hK (lv2 := fun v2 => [(0, .ref (Z.2.2.1 + 292)), (1, .int (zi a1)), (2, .int (zi x2)), (3, .int (zi v2)), (4, .int (zi v1))]) 3 rfl [1, 2, 3, 0, 4] (fun _ => rfl) (by decide) d7_whyOf_111 (fun v2 hv2 => ?_)
      refine g_goto hK (tgt := 27) (by decide) d7_whyOf_114 ?_
      refine g_lv (lv2 := [(0, .ref (Z.2.2.1 + 292)), (1, .int (zi a1)), (2, .int (zi x2)), (3, .int (zi v2))]) [0, 1, 2, 3] rfl ?_
      exact hk27 x2 v2  hx2 hv2
    · refine g_aload_n hK 0 rfl rfl d7_whyOf_67 ?_
      refine g_getR hK zfin_7 (fa_7_23 kc_292) q_1220 (r := 329) (by decide +kernel) d7_whyOf_68 ?_
      refine g_iload hK 4 rfl d7_whyOf_71 ?_
      refine g_zald hK kc_329 d7_whyOf_73 (fun _ hl3 => ?_)
      refine g_if_ne hK hl3 (tgt := 80) (by decide) d7_whyOf_74 (fun _ => ?_) (fun _ => ?_)
      · refine g_iload_n hK 2 rfl rfl d7_whyOf_80 ?_
        refine g_aload_n hK 0 rfl rfl d7_whyOf_81 ?_
        refine g_aload_n hK 0 rfl rfl d7_whyOf_82 ?_
        refine g_getM hK zfin_7 (fa_7_8 kc_292) q_1205 (w := 6) (by decide) d7_whyOf_83 (fun hm3 => ?_)
        refine g_getRN hK zfin_6 (fa_6_7 hm3) qn_1151 (pt_6_field hm3) d7_whyOf_86 ?_
        refine g_aload_n hK 0 rfl rfl d7_whyOf_89 ?_
        refine g_iload hK 4 rfl d7_whyOf_90 ?_
        refine g_callVco hK (mk := mkI) (rm := rm7_of) (cb := 0) (sb := 0) (As := [.int (zi v1)]) (b := 292) (n := 1) (c7_of K.2.1 hK.2.2.2.2.2.2.2.2.1 Z v1 μ hv1) rfl (ci := 7) rfl (by decide) kc_292 q_1479 q_1481 qs_7_of q_7 q_1482 rfl (by decide +kernel) (by decide) (Nat.le_of_ble_eq_true rfl) (Nat.le_of_ble_eq_true rfl) (Nat.le_of_ble_eq_true rfl) rfl d7_whyOf_92 (fun r6 hr6 hpr6 => ?_)
        refine g_iald hK (pt_6_field_k hm3) d7_whyOf_95 (fun _ hl4 => ?_)
        refine g_callVco hK (mk := mkZ) (rm := rm7_isTyped) (cb := 0) (sb := 0) (As := [.int (zi (zI μ ((zR μ 292 8) + 6) (zx r6)))]) (b := 292) (n := 1) (c7_isTyped K.2.1 hK.2.2.2.2.2.2.2.2.1 Z (zI μ ((zR μ 292 8) + 6) (zx r6)) μ hl4) rfl (ci := 7) rfl (by decide) kc_292 q_1483 q_1485 qs_7_isTyped q_7 q_1486 rfl (by decide +kernel) (by decide) (Nat.le_of_ble_eq_true rfl) (Nat.le_of_ble_eq_true rfl) (Nat.le_of_ble_eq_true rfl) rfl d7_whyOf_96 (fun r7 hr7 hpr7 => ?_)
        refine g_if_eq hK (zb_r r7) (tgt := 106) (by decide) d7_whyOf_99 (fun _ => ?_) (fun _ => ?_)
        · refine g_iconst hK d7_whyOf_106 zki3 ?_
          refine g_lv (lv2 := [(0, .ref (Z.2.2.1 + 292)), (1, .int (zi a1)), (3, .int (zi x3))]) [0, 1, 3] rfl ?_
          exact p7_whyOf_107 hcx a1 μ ha1 k27 hk27 x3 3 x2  hx3 zc3 hx2
        · refine g_iconst hK d7_whyOf_102 zki2 ?_
          refine g_goto hK (tgt := 107) (by decide) d7_whyOf_103 ?_
          refine g_lv (lv2 := [(0, .ref (Z.2.2.1 + 292)), (1, .int (zi a1)), (3, .int (zi x3))]) [0, 1, 3] rfl ?_
          exact p7_whyOf_107 hcx a1 μ ha1 k27 hk27 x3 2 x2  hx3 zc2 hx2
      · refine g_goto hK (tgt := 111) (by decide) d7_whyOf_77 ?_
        refine g_iinc hK (lv2 := fun v3 => [(0, .ref (Z.2.2.1 + 292)), (1, .int (zi a1)), (2, .int (zi x2)), (3, .int (zi v3)), (4, .int (zi v1))]) 3 rfl [1, 2, 3, 0, 4] (fun _ => rfl) (by decide) d7_whyOf_111 (fun v3 hv3 => ?_)
        refine g_goto hK (tgt := 27) (by decide) d7_whyOf_114 ?_
        refine g_lv (lv2 := [(0, .ref (Z.2.2.1 + 292)), (1, .int (zi a1)), (2, .int (zi x2)), (3, .int (zi v3))]) [0, 1, 2, 3] rfl ?_
        exact hk27 x2 v3  hx2 hv3
set_option maxRecDepth 20000 in
theorem l7_whyOf_27 {K : zK} {Z : zZ} (hcx : zOk K Z b7_whyOf RX7 5 (some .int) 2 52 0 0 ∧ ∀ x ∈ K.2.2.2.2.2.2.2.2.2.exceptionTable.toList, False) (a1 : Int) (μ : zM) (ha1 : zr a1) : ∀ (i9 : Nat) (x2 : Int) (x3 : Int) (hx2 : zr x2) (hx3 : zr x3), zG K Z (zΩ Z) (zF K Z (zΩ Z) (zeP mkI μ)) 0 0 27 [(0, .ref (Z.2.2.1 + 292)), (1, .int (zi a1)), (2, .int (zi x2)), (3, .int (zi x3))] [] μ (zfx (f7_whyOf_27 a1 μ) (fun _ _ => none) i9 x2 x3) := by
  intro i9
  induction i9 with
  | zero => intro x2 x3 hx2 hx3; exact g_none
  | succ i9 ih => intro x2 x3 hx2 hx3; exact p7_whyOf_27 hcx a1 μ ha1  (zfx (f7_whyOf_27 a1 μ) (fun _ _ => none) i9) ih x2 x3 hx2 hx3
set_option maxRecDepth 20000 in
theorem c7_whyOf (l : Launch) (hst : l.stackTraces = false) (Z : zZ) (a1 : Int) (μ : zM) (ha1 : zr a1) : ∀ x, f7_whyOf a1 μ = some x → zCt l Z (zΩ Z) y7_whyOf (zws (.code y7_whyOf b7_whyOf 5 (some .int))) rm7_whyOf [.ref (Z.2.2.1 + 292), .int (zi a1)] μ (zeP mkI μ x) := by
  intro x h
  refine zCt.of (enc := (zeP mkI μ)) h (by decide) hst (Nat.le_of_ble_eq_true rfl) (fun K hK0 hex hl _ => ?_)
  subst hl
  have hcx : zOk K Z b7_whyOf RX7 5 (some .int) 2 52 0 0 ∧ ∀ x ∈ K.2.2.2.2.2.2.2.2.2.exceptionTable.toList, False := ⟨hK0, hex⟩
  have hK := hcx.1
  show zG K Z (zΩ Z) (zF K Z (zΩ Z) (zeP mkI μ)) 0 0 0 [(0, .ref (Z.2.2.1 + 292)), (1, .int (zi a1))] [] μ (f7_whyOf a1 μ)
  unfold f7_whyOf
  refine g_aload_n hK 0 rfl rfl d7_whyOf_0 ?_
  refine g_getI hK zfin_7 (fa_7_27 kc_292) q_1224 d7_whyOf_1 (fun hf1 => ?_)
  refine g_iload_n hK 1 rfl rfl d7_whyOf_4 ?_
  refine g_callSco hK (mk := mkZ) (rm := rm7_has) (cb := 0) (sb := 0) (As := [.int (zi (zI μ 292 27)), .int (zi a1)]) (n := 2) (c7_has K.2.1 hK.2.2.2.2.2.2.2.2.1 Z (zI μ 292 27) a1 μ hf1 ha1) q_1390 q_1391 q_7 q_1392 rfl (by decide +kernel) (by decide) (Nat.le_of_ble_eq_true rfl) (Nat.le_of_ble_eq_true rfl) (Nat.le_of_ble_eq_true rfl) rfl d7_whyOf_5 (fun r1 hr1 hpr1 => ?_)
  refine g_if_eq hK (zb_r r1) (tgt := 13) (by decide) d7_whyOf_8 (fun _ => ?_) (fun _ => ?_)
  · refine g_aload_n hK 0 rfl rfl d7_whyOf_13 ?_
    refine g_iload_n hK 1 rfl rfl d7_whyOf_14 ?_
    refine g_callVco hK (mk := mkI) (rm := rm7_allOf) (cb := 0) (sb := 0) (As := [.int (zi a1)]) (b := 292) (n := 1) (c7_allOf K.2.1 hK.2.2.2.2.2.2.2.2.1 Z a1 μ ha1) rfl (ci := 7) rfl (by decide) kc_292 q_1542 q_1544 qs_7_allOf q_7 q_1545 rfl (by decide +kernel) (by decide) (Nat.le_of_ble_eq_true rfl) (Nat.le_of_ble_eq_true rfl) (Nat.le_of_ble_eq_true rfl) rfl d7_whyOf_15 (fun r2 hr2 hpr2 => ?_)
    refine g_if_ne hK hpr2 (tgt := 23) (by decide) d7_whyOf_18 (fun _ => ?_) (fun _ => ?_)
    · refine g_iconst hK d7_whyOf_23 zki4 ?_
      refine g_istore_n hK (lv2 := [(0, .ref (Z.2.2.1 + 292)), (1, .int (zi a1)), (2, .int (zi 4))]) [1, 2, 0] rfl rfl (by decide) d7_whyOf_24 ?_
      refine g_iconst hK d7_whyOf_25 zki0 ?_
      refine g_istore_n hK (lv2 := [(0, .ref (Z.2.2.1 + 292)), (1, .int (zi a1)), (2, .int (zi 4)), (3, .int (zi 0))]) [1, 2, 3, 0] rfl rfl (by decide) d7_whyOf_26 ?_
      exact l7_whyOf_27 hcx a1 μ ha1  zFu 4 0  zc4 zc0
    · refine g_iconst hK d7_whyOf_21 zki1 ?_
      exact g_iret hK zc1 rfl rfl d7_whyOf_22
  · refine g_iconst hK d7_whyOf_11 zki0 ?_
    exact g_iret hK zc0 rfl rfl d7_whyOf_12
set_option maxRecDepth 20000 in
theorem p7_why_18 {K : zK} {Z : zZ} (hcx : zOk K Z b7_why RX7 2 (some .int) 5 115 0 0 ∧ ∀ x ∈ K.2.2.2.2.2.2.2.2.2.exceptionTable.toList, False) (a1 : Int) (ha1 : zr a1) (s0 : Int) (μ : zM) (hs0 : zr s0) : zG K Z (zΩ Z) (zF K Z (zΩ Z) (ze2 mkI)) 0 0 18 [(0, .ref (Z.2.2.1 + 292)), (1, .int (zi a1))] [.int (zi s0), .ref (Z.2.2.1 + 292)] μ (f7_why_18 a1 s0 μ) := by
  obtain ⟨hK, hex⟩ := id hcx
  unfold f7_why_18
  refine g_iconst hK d7_why_18 zki1 ?_
  refine g_callVcl hK (mk := mkZ) (rm := rm7_throwsIf) (cb := 0) (sb := 0) (As := [.int (zi s0), .int (zi 1)]) (b := 292) (n := 2) (c7_throwsIf K.2.1 hK.2.2.2.2.2.2.2.2.1 Z s0 1 μ hs0 zc1) rfl (ci := 7) rfl (by decide) kc_292 q_1317 q_1319 qs_7_throwsIf q_7 q_1320 rfl (by decide +kernel) (by decide) (Nat.le_of_ble_eq_true rfl) (Nat.le_of_ble_eq_true rfl) (Nat.le_of_ble_eq_true rfl) rfl d7_why_19 (fun r2 m2 hr2 hpr2 => ?_)
  refine g_if_ne hK (zb_r r2) (tgt := 33) (by decide) d7_why_22 (fun _ => ?_) (fun _ => ?_)
  · refine g_iconst hK d7_why_33 zki0 ?_
    refine g_goto hK (tgt := 42) (by decide) d7_why_34 ?_
    exact g_iret hK zc0 rfl rfl d7_why_42
  · refine g_aload_n hK 0 rfl rfl d7_why_25 ?_
    refine g_iconst hK d7_why_26 zki2 ?_
    refine g_callVcl hK (mk := mkZ) (rm := rm7_noSession) (cb := 0) (sb := 0) (As := [.int (zi 2)]) (b := 292) (n := 1) (c7_noSession K.2.1 hK.2.2.2.2.2.2.2.2.1 Z 2 m2 zc2) rfl (ci := 7) rfl (by decide) kc_292 q_1518 q_1520 qs_7_noSession q_7 q_1521 rfl (by decide +kernel) (by decide) (Nat.le_of_ble_eq_true rfl) (Nat.le_of_ble_eq_true rfl) (Nat.le_of_ble_eq_true rfl) rfl d7_why_27 (fun r3 m3 hr3 hpr3 => ?_)
    refine g_if_eq hK (zb_r r3) (tgt := 37) (by decide) d7_why_30 (fun _ => ?_) (fun _ => ?_)
    · refine g_aload_n hK 0 rfl rfl d7_why_37 ?_
      refine g_iload_n hK 1 rfl rfl d7_why_38 ?_
      refine g_callVco hK (mk := mkI) (rm := rm7_whyOf) (cb := 0) (sb := 0) (As := [.int (zi a1)]) (b := 292) (n := 1) (c7_whyOf K.2.1 hK.2.2.2.2.2.2.2.2.1 Z a1 m3 ha1) rfl (ci := 7) rfl (by decide) kc_292 q_1601 q_1603 qs_7_whyOf q_7 q_1604 rfl (by decide +kernel) (by decide) (Nat.le_of_ble_eq_true rfl) (Nat.le_of_ble_eq_true rfl) (Nat.le_of_ble_eq_true rfl) rfl d7_why_39 (fun r4 hr4 hpr4 => ?_)
      exact g_iret hK hpr4 rfl rfl d7_why_42
    · refine g_iconst hK d7_why_33 zki0 ?_
      refine g_goto hK (tgt := 42) (by decide) d7_why_34 ?_
      exact g_iret hK zc0 rfl rfl d7_why_42
set_option maxRecDepth 20000 in
theorem c7_why (l : Launch) (hst : l.stackTraces = false) (Z : zZ) (a1 : Int) (μ : zM) (ha1 : zr a1) : ∀ x, f7_why a1 μ = some x → zCt l Z (zΩ Z) y7_why (zws (.code y7_why b7_why 2 (some .int))) rm7_why [.ref (Z.2.2.1 + 292), .int (zi a1)] μ (ze2 mkI x) := by
  intro x h
  refine zCt.of (enc := (ze2 mkI)) h (by decide) hst (Nat.le_of_ble_eq_true rfl) (fun K hK0 hex hl _ => ?_)
  subst hl
  have hcx : zOk K Z b7_why RX7 2 (some .int) 5 115 0 0 ∧ ∀ x ∈ K.2.2.2.2.2.2.2.2.2.exceptionTable.toList, False := ⟨hK0, hex⟩
  have hK := hcx.1
  show zG K Z (zΩ Z) (zF K Z (zΩ Z) (ze2 mkI)) 0 0 0 [(0, .ref (Z.2.2.1 + 292)), (1, .int (zi a1))] [] μ (f7_why a1 μ)
  unfold f7_why
  refine g_aload_n hK 0 rfl rfl d7_why_0 ?_
  refine g_iconst hK d7_why_1 zki0 ?_
  refine g_putI hK zfin_7 (fa_7_0 kc_292) q_1197 zc0 rfl (tyX7_ok 0 (by decide)) tyX7 tyX7_ok nmX7 d7_why_2 ?_
  refine g_ltM (fun m1 => ?_)
  refine g_aload_n hK 0 rfl rfl d7_why_5 ?_
  refine g_iload_n hK 1 rfl rfl d7_why_6 ?_
  refine g_callSco hK (mk := mkZ) (rm := rm7_isField) (cb := 0) (sb := 0) (As := [.int (zi a1)]) (n := 1) (c7_isField K.2.1 hK.2.2.2.2.2.2.2.2.1 Z a1 m1 ha1) q_1456 q_1457 q_7 q_1458 rfl (by decide +kernel) (by decide) (Nat.le_of_ble_eq_true rfl) (Nat.le_of_ble_eq_true rfl) (Nat.le_of_ble_eq_true rfl) rfl d7_why_7 (fun r1 hr1 hpr1 => ?_)
  refine g_if_ne hK (zb_r r1) (tgt := 17) (by decide) d7_why_10 (fun _ => ?_) (fun _ => ?_)
  · refine g_iconst hK d7_why_17 zki0 ?_
    exact p7_why_18 hcx a1 ha1  0 m1 zc0
  · refine g_iconst hK d7_why_13 zki1 ?_
    refine g_goto hK (tgt := 18) (by decide) d7_why_14 ?_
    exact p7_why_18 hcx a1 ha1  1 m1 zc1
set_option maxRecDepth 20000 in
theorem p7_yielded_66 {K : zK} {Z : zZ} (hcx : zOk K Z b7_yielded RX7 3 (some .int) 5 115 0 0 ∧ ∀ x ∈ K.2.2.2.2.2.2.2.2.2.exceptionTable.toList, False) (k19 : Int → Int → zM → Option (Int × zM)) (hk19 : ∀ (x1 : Int) (x2 : Int) (μ : zM) (hx1 : zr x1) (hx2 : zr x2), zG K Z (zΩ Z) (zF K Z (zΩ Z) (ze2 mkI)) 0 0 19 [(0, .ref (Z.2.2.1 + 292)), (1, .int (zi x1)), (2, .int (zi x2))] [] μ (k19 x1 x2 μ)) (x2 : Int) (s0 : Int) (μ : zM) (hx2 : zr x2) (hs0 : zr s0) : zG K Z (zΩ Z) (zF K Z (zΩ Z) (ze2 mkI)) 0 0 66 [(0, .ref (Z.2.2.1 + 292)), (2, .int (zi x2))] [.int (zi s0)] μ (f7_yielded_66 k19 x2 s0 μ) := by
  obtain ⟨hK, hex⟩ := id hcx
  unfold f7_yielded_66
  refine g_iconst hK d7_yielded_66 zki0 ?_
  refine g_iadd hK d7_yielded_67 (fun v3 hv3 => ?_)
  refine g_istore_n hK (lv2 := [(0, .ref (Z.2.2.1 + 292)), (1, .int (zi v3)), (2, .int (zi x2))]) [1, 0, 2] rfl rfl (by decide) d7_yielded_68 ?_
  refine g_iinc hK (lv2 := fun v4 => [(0, .ref (Z.2.2.1 + 292)), (1, .int (zi v3)), (2, .int (zi v4))]) 2 rfl [1, 2, 0] (fun _ => rfl) (by decide) d7_yielded_69 (fun v4 hv4 => ?_)
  refine g_goto hK (tgt := 19) (by decide) d7_yielded_72 ?_
  exact hk19 v3 v4 μ hv3 hv4
set_option maxRecDepth 20000 in
theorem p7_yielded_19 {K : zK} {Z : zZ} (hcx : zOk K Z b7_yielded RX7 3 (some .int) 5 115 0 0 ∧ ∀ x ∈ K.2.2.2.2.2.2.2.2.2.exceptionTable.toList, False) (k19 : Int → Int → zM → Option (Int × zM)) (hk19 : ∀ (x1 : Int) (x2 : Int) (μ : zM) (hx1 : zr x1) (hx2 : zr x2), zG K Z (zΩ Z) (zF K Z (zΩ Z) (ze2 mkI)) 0 0 19 [(0, .ref (Z.2.2.1 + 292)), (1, .int (zi x1)), (2, .int (zi x2))] [] μ (k19 x1 x2 μ)) (x1 : Int) (x2 : Int) (μ : zM) (hx1 : zr x1) (hx2 : zr x2) : zG K Z (zΩ Z) (zF K Z (zΩ Z) (ze2 mkI)) 0 0 19 [(0, .ref (Z.2.2.1 + 292)), (1, .int (zi x1)), (2, .int (zi x2))] [] μ (f7_yielded_19 k19 x1 x2 μ) := by
  obtain ⟨hK, hex⟩ := id hcx
  unfold f7_yielded_19
  refine g_iload_n hK 2 rfl rfl d7_yielded_19 ?_
  refine g_aload_n hK 0 rfl rfl d7_yielded_20 ?_
  refine g_callVco hK (mk := mkI) (rm := rm7_many) (cb := 0) (sb := 0) (As := []) (b := 292) (n := 0) (c7_many K.2.1 hK.2.2.2.2.2.2.2.2.1 Z  μ ) rfl (ci := 7) rfl (by decide) kc_292 q_1475 q_1477 qs_7_many q_7 q_1478 rfl (by decide +kernel) (by decide) (Nat.le_of_ble_eq_true rfl) (Nat.le_of_ble_eq_true rfl) (Nat.le_of_ble_eq_true rfl) rfl d7_yielded_21 (fun r2 hr2 hpr2 => ?_)
  refine g_icmp_ge hK hx2 hpr2 (tgt := 75) (by decide) d7_yielded_24 (fun _ => ?_) (fun _ => ?_)
  · refine g_iload_n hK 1 rfl rfl d7_yielded_75 ?_
    exact g_iret hK hx1 rfl rfl d7_yielded_76
  · refine g_iload_n hK 1 rfl rfl d7_yielded_27 ?_
    refine g_aload_n hK 0 rfl rfl d7_yielded_28 ?_
    refine g_getR hK zfin_7 (fa_7_23 kc_292) q_1220 (r := 329) (by decide +kernel) d7_yielded_29 ?_
    refine g_iload_n hK 2 rfl rfl d7_yielded_32 ?_
    refine g_zald hK kc_329 d7_yielded_33 (fun _ hl1 => ?_)
    refine g_if_eq hK hl1 (tgt := 66) (by decide) d7_yielded_34 (fun _ => ?_) (fun _ => ?_)
    · refine g_lv (lv2 := [(0, .ref (Z.2.2.1 + 292)), (2, .int (zi x2))]) [0, 2] rfl ?_
      exact p7_yielded_66 hcx k19 hk19 x2 x1 μ hx2 hx1
    · refine g_aload_n hK 0 rfl rfl d7_yielded_37 ?_
      refine g_getM hK zfin_7 (fa_7_8 kc_292) q_1205 (w := 6) (by decide) d7_yielded_38 (fun hm1 => ?_)
      refine g_getRN hK zfin_6 (fa_6_9 hm1) qn_1155 (pt_6_hasDefault hm1) d7_yielded_41 ?_
      refine g_aload_n hK 0 rfl rfl d7_yielded_44 ?_
      refine g_iload_n hK 2 rfl rfl d7_yielded_45 ?_
      refine g_callVco hK (mk := mkI) (rm := rm7_of) (cb := 0) (sb := 0) (As := [.int (zi x2)]) (b := 292) (n := 1) (c7_of K.2.1 hK.2.2.2.2.2.2.2.2.1 Z x2 μ hx2) rfl (ci := 7) rfl (by decide) kc_292 q_1479 q_1481 qs_7_of q_7 q_1482 rfl (by decide +kernel) (by decide) (Nat.le_of_ble_eq_true rfl) (Nat.le_of_ble_eq_true rfl) (Nat.le_of_ble_eq_true rfl) rfl d7_yielded_46 (fun r3 hr3 hpr3 => ?_)
      refine g_zald hK (pt_6_hasDefault_k hm1) d7_yielded_49 (fun _ hl2 => ?_)
      refine g_if_eq hK hl2 (tgt := 66) (by decide) d7_yielded_50 (fun _ => ?_) (fun _ => ?_)
      · refine g_lv (lv2 := [(0, .ref (Z.2.2.1 + 292)), (2, .int (zi x2))]) [0, 2] rfl ?_
        exact p7_yielded_66 hcx k19 hk19 x2 x1 μ hx2 hx1
      · refine g_aload_n hK 0 rfl rfl d7_yielded_53 ?_
        refine g_getR hK zfin_7 (fa_7_24 kc_292) q_1221 (r := 330) (by decide +kernel) d7_yielded_54 ?_
        refine g_iload_n hK 2 rfl rfl d7_yielded_57 ?_
        refine g_zald hK kc_330 d7_yielded_58 (fun _ hl3 => ?_)
        refine g_if_ne hK hl3 (tgt := 66) (by decide) d7_yielded_59 (fun _ => ?_) (fun _ => ?_)
        · refine g_lv (lv2 := [(0, .ref (Z.2.2.1 + 292)), (2, .int (zi x2))]) [0, 2] rfl ?_
          exact p7_yielded_66 hcx k19 hk19 x2 x1 μ hx2 hx1
        · refine g_iconst hK d7_yielded_62 zki1 ?_
          refine g_goto hK (tgt := 67) (by decide) d7_yielded_63 ?_
          refine g_iadd hK d7_yielded_67 (fun v1 hv1 => ?_)
          refine g_istore_n hK (lv2 := [(0, .ref (Z.2.2.1 + 292)), (1, .int (zi v1)), (2, .int (zi x2))]) [1, 0, 2] rfl rfl (by decide) d7_yielded_68 ?_
          refine g_iinc hK (lv2 := fun v2 => [(0, .ref (Z.2.2.1 + 292)), (1, .int (zi v1)), (2, .int (zi v2))]) 2 rfl [1, 2, 0] (fun _ => rfl) (by decide) d7_yielded_69 (fun v2 hv2 => ?_)
          refine g_goto hK (tgt := 19) (by decide) d7_yielded_72 ?_
          exact hk19 v1 v2 μ hv1 hv2
set_option maxRecDepth 20000 in
theorem l7_yielded_19 {K : zK} {Z : zZ} (hcx : zOk K Z b7_yielded RX7 3 (some .int) 5 115 0 0 ∧ ∀ x ∈ K.2.2.2.2.2.2.2.2.2.exceptionTable.toList, False) : ∀ (i9 : Nat) (x1 : Int) (x2 : Int) (μ : zM) (hx1 : zr x1) (hx2 : zr x2), zG K Z (zΩ Z) (zF K Z (zΩ Z) (ze2 mkI)) 0 0 19 [(0, .ref (Z.2.2.1 + 292)), (1, .int (zi x1)), (2, .int (zi x2))] [] μ (zfx (f7_yielded_19) (fun _ _ _ => none) i9 x1 x2 μ) := by
  intro i9
  induction i9 with
  | zero => intro x1 x2 μ hx1 hx2; exact g_none
  | succ i9 ih => intro x1 x2 μ hx1 hx2; exact p7_yielded_19 hcx  (zfx (f7_yielded_19) (fun _ _ _ => none) i9) ih x1 x2 μ hx1 hx2
set_option maxRecDepth 20000 in
theorem c7_yielded (l : Launch) (hst : l.stackTraces = false) (Z : zZ) (μ : zM) : ∀ x, f7_yielded μ = some x → zCt l Z (zΩ Z) y7_yielded (zws (.code y7_yielded b7_yielded 3 (some .int))) rm7_yielded [.ref (Z.2.2.1 + 292)] μ (ze2 mkI x) := by
  intro x h
  refine zCt.of (enc := (ze2 mkI)) h (by decide) hst (Nat.le_of_ble_eq_true rfl) (fun K hK0 hex hl _ => ?_)
  subst hl
  have hcx : zOk K Z b7_yielded RX7 3 (some .int) 5 115 0 0 ∧ ∀ x ∈ K.2.2.2.2.2.2.2.2.2.exceptionTable.toList, False := ⟨hK0, hex⟩
  have hK := hcx.1
  show zG K Z (zΩ Z) (zF K Z (zΩ Z) (ze2 mkI)) 0 0 0 [(0, .ref (Z.2.2.1 + 292))] [] μ (f7_yielded μ)
  unfold f7_yielded
  refine g_aload_n hK 0 rfl rfl d7_yielded_0 ?_
  refine g_iconst hK d7_yielded_1 zki0 ?_
  refine g_putI hK zfin_7 (fa_7_0 kc_292) q_1197 zc0 rfl (tyX7_ok 0 (by decide)) tyX7 tyX7_ok nmX7 d7_yielded_2 ?_
  refine g_ltM (fun m1 => ?_)
  refine g_aload_n hK 0 rfl rfl d7_yielded_5 ?_
  refine g_iconst hK d7_yielded_6 zki1 ?_
  refine g_callVcl hK (mk := mkZ) (rm := rm7_noSession) (cb := 0) (sb := 0) (As := [.int (zi 1)]) (b := 292) (n := 1) (c7_noSession K.2.1 hK.2.2.2.2.2.2.2.2.1 Z 1 m1 zc1) rfl (ci := 7) rfl (by decide) kc_292 q_1518 q_1520 qs_7_noSession q_7 q_1521 rfl (by decide +kernel) (by decide) (Nat.le_of_ble_eq_true rfl) (Nat.le_of_ble_eq_true rfl) (Nat.le_of_ble_eq_true rfl) rfl d7_yielded_7 (fun r1 m2 hr1 hpr1 => ?_)
  refine g_if_eq hK (zb_r r1) (tgt := 15) (by decide) d7_yielded_10 (fun _ => ?_) (fun _ => ?_)
  · refine g_iconst hK d7_yielded_15 zki0 ?_
    refine g_istore_n hK (lv2 := [(0, .ref (Z.2.2.1 + 292)), (1, .int (zi 0))]) [1, 0] rfl rfl (by decide) d7_yielded_16 ?_
    refine g_iconst hK d7_yielded_17 zki0 ?_
    refine g_istore_n hK (lv2 := [(0, .ref (Z.2.2.1 + 292)), (1, .int (zi 0)), (2, .int (zi 0))]) [1, 2, 0] rfl rfl (by decide) d7_yielded_18 ?_
    exact l7_yielded_19 hcx  zFu 0 0 m2 zc0 zc0
  · refine g_iconst hK d7_yielded_13 zki0 ?_
    exact g_iret hK zc0 rfl rfl d7_yielded_14
set_option maxRecDepth 20000 in
theorem p7_mirrored_19 {K : zK} {Z : zZ} (hcx : zOk K Z b7_mirrored RX7 3 (some .int) 5 115 0 0 ∧ ∀ x ∈ K.2.2.2.2.2.2.2.2.2.exceptionTable.toList, False) (k19 : Int → Int → zM → Option (Int × zM)) (hk19 : ∀ (x1 : Int) (x2 : Int) (μ : zM) (hx1 : zr x1) (hx2 : zr x2), zG K Z (zΩ Z) (zF K Z (zΩ Z) (ze2 mkI)) 0 0 19 [(0, .ref (Z.2.2.1 + 292)), (1, .int (zi x1)), (2, .int (zi x2))] [] μ (k19 x1 x2 μ)) (x1 : Int) (x2 : Int) (μ : zM) (hx1 : zr x1) (hx2 : zr x2) : zG K Z (zΩ Z) (zF K Z (zΩ Z) (ze2 mkI)) 0 0 19 [(0, .ref (Z.2.2.1 + 292)), (1, .int (zi x1)), (2, .int (zi x2))] [] μ (f7_mirrored_19 k19 x1 x2 μ) := by
  obtain ⟨hK, hex⟩ := id hcx
  unfold f7_mirrored_19
  refine g_iload_n hK 2 rfl rfl d7_mirrored_19 ?_
  refine g_bipush hK d7_mirrored_20 zkb10 ?_
  refine g_icmp_ge hK hx2 zc10 (tgt := 48) (by decide) d7_mirrored_22 (fun _ => ?_) (fun _ => ?_)
  · refine g_iload_n hK 1 rfl rfl d7_mirrored_48 ?_
    exact g_iret hK hx1 rfl rfl d7_mirrored_49
  · refine g_iload_n hK 1 rfl rfl d7_mirrored_25 ?_
    refine g_aload_n hK 0 rfl rfl d7_mirrored_26 ?_
    refine g_iload_n hK 2 rfl rfl d7_mirrored_27 ?_
    refine g_callVco hK (mk := mkI) (rm := rm7_shownOf) (cb := 0) (sb := 0) (As := [.int (zi x2)]) (b := 292) (n := 1) (c7_shownOf K.2.1 hK.2.2.2.2.2.2.2.2.1 Z x2 μ hx2) rfl (ci := 7) rfl (by decide) kc_292 q_1534 q_1536 qs_7_shownOf q_7 q_1537 rfl (by decide +kernel) (by decide) (Nat.le_of_ble_eq_true rfl) (Nat.le_of_ble_eq_true rfl) (Nat.le_of_ble_eq_true rfl) rfl d7_mirrored_28 (fun r2 hr2 hpr2 => ?_)
    refine g_iconst hK d7_mirrored_31 zki1 ?_
    refine g_icmp_le hK hpr2 zc1 (tgt := 39) (by decide) d7_mirrored_32 (fun _ => ?_) (fun _ => ?_)
    · refine g_iconst hK d7_mirrored_39 zki0 ?_
      refine g_iadd hK d7_mirrored_40 (fun v1 hv1 => ?_)
      refine g_istore_n hK (lv2 := [(0, .ref (Z.2.2.1 + 292)), (1, .int (zi v1)), (2, .int (zi x2))]) [1, 0, 2] rfl rfl (by decide) d7_mirrored_41 ?_
      refine g_iinc hK (lv2 := fun v2 => [(0, .ref (Z.2.2.1 + 292)), (1, .int (zi v1)), (2, .int (zi v2))]) 2 rfl [1, 2, 0] (fun _ => rfl) (by decide) d7_mirrored_42 (fun v2 hv2 => ?_)
      refine g_goto hK (tgt := 19) (by decide) d7_mirrored_45 ?_
      exact hk19 v1 v2 μ hv1 hv2
    · refine g_iconst hK d7_mirrored_35 zki1 ?_
      refine g_goto hK (tgt := 40) (by decide) d7_mirrored_36 ?_
      refine g_iadd hK d7_mirrored_40 (fun v3 hv3 => ?_)
      refine g_istore_n hK (lv2 := [(0, .ref (Z.2.2.1 + 292)), (1, .int (zi v3)), (2, .int (zi x2))]) [1, 0, 2] rfl rfl (by decide) d7_mirrored_41 ?_
      refine g_iinc hK (lv2 := fun v4 => [(0, .ref (Z.2.2.1 + 292)), (1, .int (zi v3)), (2, .int (zi v4))]) 2 rfl [1, 2, 0] (fun _ => rfl) (by decide) d7_mirrored_42 (fun v4 hv4 => ?_)
      refine g_goto hK (tgt := 19) (by decide) d7_mirrored_45 ?_
      exact hk19 v3 v4 μ hv3 hv4
set_option maxRecDepth 20000 in
theorem l7_mirrored_19 {K : zK} {Z : zZ} (hcx : zOk K Z b7_mirrored RX7 3 (some .int) 5 115 0 0 ∧ ∀ x ∈ K.2.2.2.2.2.2.2.2.2.exceptionTable.toList, False) : ∀ (i9 : Nat) (x1 : Int) (x2 : Int) (μ : zM) (hx1 : zr x1) (hx2 : zr x2), zG K Z (zΩ Z) (zF K Z (zΩ Z) (ze2 mkI)) 0 0 19 [(0, .ref (Z.2.2.1 + 292)), (1, .int (zi x1)), (2, .int (zi x2))] [] μ (zfx (f7_mirrored_19) (fun _ _ _ => none) i9 x1 x2 μ) := by
  intro i9
  induction i9 with
  | zero => intro x1 x2 μ hx1 hx2; exact g_none
  | succ i9 ih => intro x1 x2 μ hx1 hx2; exact p7_mirrored_19 hcx  (zfx (f7_mirrored_19) (fun _ _ _ => none) i9) ih x1 x2 μ hx1 hx2
set_option maxRecDepth 20000 in
theorem c7_mirrored (l : Launch) (hst : l.stackTraces = false) (Z : zZ) (μ : zM) : ∀ x, f7_mirrored μ = some x → zCt l Z (zΩ Z) y7_mirrored (zws (.code y7_mirrored b7_mirrored 3 (some .int))) rm7_mirrored [.ref (Z.2.2.1 + 292)] μ (ze2 mkI x) := by
  intro x h
  refine zCt.of (enc := (ze2 mkI)) h (by decide) hst (Nat.le_of_ble_eq_true rfl) (fun K hK0 hex hl _ => ?_)
  subst hl
  have hcx : zOk K Z b7_mirrored RX7 3 (some .int) 5 115 0 0 ∧ ∀ x ∈ K.2.2.2.2.2.2.2.2.2.exceptionTable.toList, False := ⟨hK0, hex⟩
  have hK := hcx.1
  show zG K Z (zΩ Z) (zF K Z (zΩ Z) (ze2 mkI)) 0 0 0 [(0, .ref (Z.2.2.1 + 292))] [] μ (f7_mirrored μ)
  unfold f7_mirrored
  refine g_aload_n hK 0 rfl rfl d7_mirrored_0 ?_
  refine g_iconst hK d7_mirrored_1 zki0 ?_
  refine g_putI hK zfin_7 (fa_7_0 kc_292) q_1197 zc0 rfl (tyX7_ok 0 (by decide)) tyX7 tyX7_ok nmX7 d7_mirrored_2 ?_
  refine g_ltM (fun m1 => ?_)
  refine g_aload_n hK 0 rfl rfl d7_mirrored_5 ?_
  refine g_iconst hK d7_mirrored_6 zki1 ?_
  refine g_callVcl hK (mk := mkZ) (rm := rm7_noSession) (cb := 0) (sb := 0) (As := [.int (zi 1)]) (b := 292) (n := 1) (c7_noSession K.2.1 hK.2.2.2.2.2.2.2.2.1 Z 1 m1 zc1) rfl (ci := 7) rfl (by decide) kc_292 q_1518 q_1520 qs_7_noSession q_7 q_1521 rfl (by decide +kernel) (by decide) (Nat.le_of_ble_eq_true rfl) (Nat.le_of_ble_eq_true rfl) (Nat.le_of_ble_eq_true rfl) rfl d7_mirrored_7 (fun r1 m2 hr1 hpr1 => ?_)
  refine g_if_eq hK (zb_r r1) (tgt := 15) (by decide) d7_mirrored_10 (fun _ => ?_) (fun _ => ?_)
  · refine g_iconst hK d7_mirrored_15 zki0 ?_
    refine g_istore_n hK (lv2 := [(0, .ref (Z.2.2.1 + 292)), (1, .int (zi 0))]) [1, 0] rfl rfl (by decide) d7_mirrored_16 ?_
    refine g_iconst hK d7_mirrored_17 zki0 ?_
    refine g_istore_n hK (lv2 := [(0, .ref (Z.2.2.1 + 292)), (1, .int (zi 0)), (2, .int (zi 0))]) [1, 2, 0] rfl rfl (by decide) d7_mirrored_18 ?_
    exact l7_mirrored_19 hcx  zFu 0 0 m2 zc0 zc0
  · refine g_iconst hK d7_mirrored_13 zki0 ?_
    exact g_iret hK zc0 rfl rfl d7_mirrored_14
set_option maxRecDepth 20000 in
theorem p7_longest_19 {K : zK} {Z : zZ} (hcx : zOk K Z b7_longest RX7 3 (some .int) 43 1112 0 0 ∧ ∀ x ∈ K.2.2.2.2.2.2.2.2.2.exceptionTable.toList, False) (k19 : Int → Int → zM → Option (Int × zM)) (hk19 : ∀ (x1 : Int) (x2 : Int) (μ : zM) (hx1 : zr x1) (hx2 : zr x2), zG K Z (zΩ Z) (zF K Z (zΩ Z) (ze2 mkI)) 0 0 19 [(0, .ref (Z.2.2.1 + 292)), (1, .int (zi x1)), (2, .int (zi x2))] [] μ (k19 x1 x2 μ)) (x1 : Int) (x2 : Int) (μ : zM) (hx1 : zr x1) (hx2 : zr x2) : zG K Z (zΩ Z) (zF K Z (zΩ Z) (ze2 mkI)) 0 0 19 [(0, .ref (Z.2.2.1 + 292)), (1, .int (zi x1)), (2, .int (zi x2))] [] μ (f7_longest_19 k19 x1 x2 μ) := by
  obtain ⟨hK, hex⟩ := id hcx
  unfold f7_longest_19
  refine g_iload_n hK 2 rfl rfl d7_longest_19 ?_
  refine g_bipush hK d7_longest_20 zkb10 ?_
  refine g_icmp_ge hK hx2 zc10 (tgt := 62) (by decide) d7_longest_22 (fun _ => ?_) (fun _ => ?_)
  · refine g_iload_n hK 1 rfl rfl d7_longest_62 ?_
    exact g_iret hK hx1 rfl rfl d7_longest_63
  · refine g_aload_n hK 0 rfl rfl d7_longest_25 ?_
    refine g_getI hK zfin_7 (fa_7_27 kc_292) q_1224 d7_longest_26 (fun hf1 => ?_)
    refine g_iload_n hK 2 rfl rfl d7_longest_29 ?_
    refine g_callSco hK (mk := mkZ) (rm := rm7_has) (cb := 0) (sb := 0) (As := [.int (zi (zI μ 292 27)), .int (zi x2)]) (n := 2) (c7_has K.2.1 hK.2.2.2.2.2.2.2.2.1 Z (zI μ 292 27) x2 μ hf1 hx2) q_1390 q_1391 q_7 q_1392 rfl (by decide +kernel) (by decide) (Nat.le_of_ble_eq_true rfl) (Nat.le_of_ble_eq_true rfl) (Nat.le_of_ble_eq_true rfl) rfl d7_longest_30 (fun r2 hr2 hpr2 => ?_)
    refine g_if_eq hK (zb_r r2) (tgt := 56) (by decide) d7_longest_33 (fun _ => ?_) (fun _ => ?_)
    · refine g_iinc hK (lv2 := fun v1 => [(0, .ref (Z.2.2.1 + 292)), (1, .int (zi x1)), (2, .int (zi v1))]) 2 rfl [1, 2, 0] (fun _ => rfl) (by decide) d7_longest_56 (fun v1 hv1 => ?_)
      refine g_goto hK (tgt := 19) (by decide) d7_longest_59 ?_
      exact hk19 x1 v1 μ hx1 hv1
    · refine g_iload_n hK 1 rfl rfl d7_longest_36 ?_
      refine g_iconst hK d7_longest_37 zkim1 ?_
      refine g_icmp_eq hK hx1 zcm1 (tgt := 54) (by decide) d7_longest_38 (fun _ => ?_) (fun _ => ?_)
      · refine g_iload_n hK 2 rfl rfl d7_longest_54 ?_
        refine g_istore_n hK (lv2 := [(0, .ref (Z.2.2.1 + 292)), (1, .int (zi x2)), (2, .int (zi x2))]) [1, 0, 2] rfl rfl (by decide) d7_longest_55 ?_
        refine g_iinc hK (lv2 := fun v2 => [(0, .ref (Z.2.2.1 + 292)), (1, .int (zi x2)), (2, .int (zi v2))]) 2 rfl [1, 2, 0] (fun _ => rfl) (by decide) d7_longest_56 (fun v2 hv2 => ?_)
        refine g_goto hK (tgt := 19) (by decide) d7_longest_59 ?_
        exact hk19 x2 v2 μ hx2 hv2
      · refine g_aload_n hK 0 rfl rfl d7_longest_41 ?_
        refine g_iload_n hK 2 rfl rfl d7_longest_42 ?_
        refine g_callVcl hK (mk := mkI) (rm := (rmGA 40)) (cb := 0) (sb := 0) (As := [.int (zi x2)]) (b := 292) (n := 1) (c7_valueLength 40 K.2.1 hK.2.2.2.2.2.2.2.2.1 Z x2 μ hx2) rfl (ci := 7) rfl (by decide) kc_292 q_1499 q_1501 qs_7_valueLength q_7 q_1502 rfl (by decide +kernel) (by decide) (Nat.le_of_ble_eq_true rfl) (Nat.le_of_ble_eq_true rfl) (Nat.le_of_ble_eq_true rfl) rfl d7_longest_43 (fun r3 m3 hr3 hpr3 => ?_)
        refine g_aload_n hK 0 rfl rfl d7_longest_46 ?_
        refine g_iload_n hK 1 rfl rfl d7_longest_47 ?_
        refine g_callVcl hK (mk := mkI) (rm := (rmGA 40)) (cb := 0) (sb := 0) (As := [.int (zi x1)]) (b := 292) (n := 1) (c7_valueLength 40 K.2.1 hK.2.2.2.2.2.2.2.2.1 Z x1 m3 hx1) rfl (ci := 7) rfl (by decide) kc_292 q_1499 q_1501 qs_7_valueLength q_7 q_1502 rfl (by decide +kernel) (by decide) (Nat.le_of_ble_eq_true rfl) (Nat.le_of_ble_eq_true rfl) (Nat.le_of_ble_eq_true rfl) rfl d7_longest_48 (fun r4 m4 hr4 hpr4 => ?_)
        refine g_icmp_le hK hpr3 hpr4 (tgt := 56) (by decide) d7_longest_51 (fun _ => ?_) (fun _ => ?_)
        · refine g_iinc hK (lv2 := fun v3 => [(0, .ref (Z.2.2.1 + 292)), (1, .int (zi x1)), (2, .int (zi v3))]) 2 rfl [1, 2, 0] (fun _ => rfl) (by decide) d7_longest_56 (fun v3 hv3 => ?_)
          refine g_goto hK (tgt := 19) (by decide) d7_longest_59 ?_
          exact hk19 x1 v3 m4 hx1 hv3
        · refine g_iload_n hK 2 rfl rfl d7_longest_54 ?_
          refine g_istore_n hK (lv2 := [(0, .ref (Z.2.2.1 + 292)), (1, .int (zi x2)), (2, .int (zi x2))]) [1, 0, 2] rfl rfl (by decide) d7_longest_55 ?_
          refine g_iinc hK (lv2 := fun v4 => [(0, .ref (Z.2.2.1 + 292)), (1, .int (zi x2)), (2, .int (zi v4))]) 2 rfl [1, 2, 0] (fun _ => rfl) (by decide) d7_longest_56 (fun v4 hv4 => ?_)
          refine g_goto hK (tgt := 19) (by decide) d7_longest_59 ?_
          exact hk19 x2 v4 m4 hx2 hv4
set_option maxRecDepth 20000 in
theorem l7_longest_19 {K : zK} {Z : zZ} (hcx : zOk K Z b7_longest RX7 3 (some .int) 43 1112 0 0 ∧ ∀ x ∈ K.2.2.2.2.2.2.2.2.2.exceptionTable.toList, False) : ∀ (i9 : Nat) (x1 : Int) (x2 : Int) (μ : zM) (hx1 : zr x1) (hx2 : zr x2), zG K Z (zΩ Z) (zF K Z (zΩ Z) (ze2 mkI)) 0 0 19 [(0, .ref (Z.2.2.1 + 292)), (1, .int (zi x1)), (2, .int (zi x2))] [] μ (zfx (f7_longest_19) (fun _ _ _ => none) i9 x1 x2 μ) := by
  intro i9
  induction i9 with
  | zero => intro x1 x2 μ hx1 hx2; exact g_none
  | succ i9 ih => intro x1 x2 μ hx1 hx2; exact p7_longest_19 hcx  (zfx (f7_longest_19) (fun _ _ _ => none) i9) ih x1 x2 μ hx1 hx2
