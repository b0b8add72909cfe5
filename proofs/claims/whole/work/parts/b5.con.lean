/-! THE MAKERS -/
def rmI3 : Room := { frames := 1, cells := 6, slots := 2252, locals := 12 }
def mk3 (t n : Nat) (μ : zM) : zM := (zsR (zsR (zsR (zsR (zsR (zsR μ t 2 (n + 1)) t 3 (n + 2)) t 4 (n + 3)) t 5 (n + 4)) t 6 (n + 5)) t 7 (n + 6))
abbrev mkOk3 (t n : Nat) : Prop := zkd t = 3 ∧ 0 < t ∧ t ≤ n ∧ (zkd (n + 1) = 100 ∧ zln (n + 1) = 4) ∧ (zkd (n + 2) = 100 ∧ zln (n + 2) = 4) ∧ (zkd (n + 3) = 100 ∧ zln (n + 3) = 4) ∧ (zkd (n + 4) = 100 ∧ zln (n + 4) = 40) ∧ (zkd (n + 5) = 100 ∧ zln (n + 5) = 1600) ∧ (zkd (n + 6) = 100 ∧ zln (n + 6) = 600)
theorem mk3_lt {t n k j : Nat} {μ : zM} (h : t ≤ n) (hk : k < t) : zR (mk3 t n μ) k j = zR μ k j := by
  unfold mk3
  rw [zR_nk (by omega), zR_nk (by omega), zR_nk (by omega), zR_nk (by omega), zR_nk (by omega), zR_nk (by omega)]
theorem mk3_gt {t n k j : Nat} {μ : zM} (hk : t < k) : zR (mk3 t n μ) k j = zR μ k j := by
  unfold mk3
  rw [zR_nk (by omega), zR_nk (by omega), zR_nk (by omega), zR_nk (by omega), zR_nk (by omega), zR_nk (by omega)]
set_option maxRecDepth 20000 in
theorem ci_3 (l : Launch) (hst : l.stackTraces = false) (Z : zZ) {t n : Nat} {μ : zM} (h : mkOk3 t n) : zCtI l Z y3_init (zws (.code y3_init b3_init 1 none)) rmI3 [.ref (Z.2.2.1 + t)] (n, μ) (n + 6, mk3 t n μ) := by
  obtain ⟨h0, hp, hn, ⟨k1, l1⟩, ⟨k2, l2⟩, ⟨k3, l3⟩, ⟨k4, l4⟩, ⟨k5, l5⟩, ⟨k6, l6⟩⟩ := h
  refine zCtI.of (by decide) hst (Nat.le_of_ble_eq_true rfl) (fun K hK hKi hname hl => ?_)
  have hin2 : K.2.2.2.2.2.2.2.2.1.name = "<init>" := hname.trans rfl
  show zG K Z (zΩn Z) (zFi K Z) 6 2252 0 [(0, .ref (Z.2.2.1 + t))] [] (n, μ) _
  refine g_aload_n hK 0 rfl rfl d3_init_0 ?_
  refine gn_oi hK q_182 q_29 q_30 (Nat.le_of_ble_eq_true rfl) (Nat.le_of_ble_eq_true rfl) d3_init_1 ?_
  refine g_aload_n hK 0 rfl rfl d3_init_4 ?_
  refine g_iconst hK d3_init_5 zki4 ?_
  refine gn_newI hK (n := n) (cb := 5) (sb := 2248) (len := 4) rfl (by decide) k1 l1 q_126 d3_init_6 ?_
  refine gn_putF hK hin2 (t := t) (r := (n + 1)) (j := 2) zfin_3 (fa_3_2 h0) (by omega) (Nat.succ_ne_zero _) q_187 (fun _ => rfl) (fun _ => rfl) rfl rfl (tyX3_ok 2 (by decide)) tyX3 tyX3_ok nmX3 d3_init_8 ?_
  refine g_aload_n hK 0 rfl rfl d3_init_11 ?_
  refine g_iconst hK d3_init_12 zki4 ?_
  refine gn_newI hK (n := (n + 1)) (cb := 4) (sb := 2244) (len := 4) rfl (by decide) k2 l2 q_126 d3_init_13 ?_
  refine gn_putF hK hin2 (t := t) (r := (n + 2)) (j := 3) zfin_3 (fa_3_3 h0) (by omega) (Nat.succ_ne_zero _) q_189 (fun _ => rfl) (fun _ => rfl) rfl rfl (tyX3_ok 3 (by decide)) tyX3 tyX3_ok nmX3 d3_init_15 ?_
  refine g_aload_n hK 0 rfl rfl d3_init_18 ?_
  refine g_iconst hK d3_init_19 zki4 ?_
  refine gn_newI hK (n := (n + 2)) (cb := 3) (sb := 2240) (len := 4) rfl (by decide) k3 l3 q_126 d3_init_20 ?_
  refine gn_putF hK hin2 (t := t) (r := (n + 3)) (j := 4) zfin_3 (fa_3_4 h0) (by omega) (Nat.succ_ne_zero _) q_191 (fun _ => rfl) (fun _ => rfl) rfl rfl (tyX3_ok 4 (by decide)) tyX3 tyX3_ok nmX3 d3_init_22 ?_
  refine g_aload_n hK 0 rfl rfl d3_init_25 ?_
  refine g_bipush hK d3_init_26 zkb40 ?_
  refine gn_newI hK (n := (n + 3)) (cb := 2) (sb := 2200) (len := 40) rfl (by decide) k4 l4 q_126 d3_init_28 ?_
  refine gn_putF hK hin2 (t := t) (r := (n + 4)) (j := 5) zfin_3 (fa_3_5 h0) (by omega) (Nat.succ_ne_zero _) q_194 (fun _ => rfl) (fun _ => rfl) rfl rfl (tyX3_ok 5 (by decide)) tyX3 tyX3_ok nmX3 d3_init_30 ?_
  refine g_aload_n hK 0 rfl rfl d3_init_33 ?_
  refine g_sipush hK d3_init_34 zks1600 ?_
  refine gn_newI hK (n := (n + 4)) (cb := 1) (sb := 600) (len := 1600) rfl (by decide) k5 l5 q_126 d3_init_37 ?_
  refine gn_putF hK hin2 (t := t) (r := (n + 5)) (j := 6) zfin_3 (fa_3_6 h0) (by omega) (Nat.succ_ne_zero _) q_195 (fun _ => rfl) (fun _ => rfl) rfl rfl (tyX3_ok 6 (by decide)) tyX3 tyX3_ok nmX3 d3_init_39 ?_
  refine g_aload_n hK 0 rfl rfl d3_init_42 ?_
  refine g_sipush hK d3_init_43 zks600 ?_
  refine gn_newI hK (n := (n + 5)) (cb := 0) (sb := 0) (len := 600) rfl (by decide) k6 l6 q_126 d3_init_46 ?_
  refine gn_putF hK hin2 (t := t) (r := (n + 6)) (j := 7) zfin_3 (fa_3_7 h0) (by omega) (Nat.succ_ne_zero _) q_197 (fun _ => rfl) (fun _ => rfl) rfl rfl (tyX3_ok 7 (by decide)) tyX3 tyX3_ok nmX3 d3_init_48 ?_
  exact gn_ret hK d3_init_51
def rmI2 : Room := { frames := 1, cells := 10, slots := 499, locals := 12 }
def mk2 (t n : Nat) (r1 r2 : Nat) (μ : zM) : zM := (zsR (zsR (zsR (zsR (zsR (zsR (zsR (zsR (zsR (zsR (zsR (zsR μ t 0 (n + 1)) t 4 (n + 2)) t 5 (n + 3)) t 6 (n + 4)) t 7 (n + 5)) t 8 (n + 6)) t 9 (n + 7)) t 10 (n + 8)) t 13 (n + 9)) t 14 (n + 10)) t 11 r1) t 12 r2)
abbrev mkOk2 (t n : Nat) (r1 r2 : Nat) : Prop := zkd t = 2 ∧ 0 < t ∧ t ≤ n ∧ (zkd (n + 1) = 100 ∧ zln (n + 1) = 8) ∧ (zkd (n + 2) = 100 ∧ zln (n + 2) = 60) ∧ (zkd (n + 3) = 100 ∧ zln (n + 3) = 60) ∧ (zkd (n + 4) = 101 ∧ zln (n + 4) = 60) ∧ (zkd (n + 5) = 100 ∧ zln (n + 5) = 60) ∧ (zkd (n + 6) = 100 ∧ zln (n + 6) = 60) ∧ (zkd (n + 7) = 100 ∧ zln (n + 7) = 10) ∧ (zkd (n + 8) = 100 ∧ zln (n + 8) = 61) ∧ (zkd (n + 9) = 100 ∧ zln (n + 9) = 60) ∧ (zkd (n + 10) = 100 ∧ zln (n + 10) = 60) ∧ r1 ≠ 0 ∧ r2 ≠ 0
theorem mk2_lt {t n r1 r2 k j : Nat} {μ : zM} (h : t ≤ n) (hk : k < t) : zR (mk2 t n r1 r2 μ) k j = zR μ k j := by
  unfold mk2
  rw [zR_nk (by omega), zR_nk (by omega), zR_nk (by omega), zR_nk (by omega), zR_nk (by omega), zR_nk (by omega), zR_nk (by omega), zR_nk (by omega), zR_nk (by omega), zR_nk (by omega), zR_nk (by omega), zR_nk (by omega)]
theorem mk2_gt {t n r1 r2 k j : Nat} {μ : zM} (hk : t < k) : zR (mk2 t n r1 r2 μ) k j = zR μ k j := by
  unfold mk2
  rw [zR_nk (by omega), zR_nk (by omega), zR_nk (by omega), zR_nk (by omega), zR_nk (by omega), zR_nk (by omega), zR_nk (by omega), zR_nk (by omega), zR_nk (by omega), zR_nk (by omega), zR_nk (by omega), zR_nk (by omega)]
set_option maxRecDepth 20000 in
theorem ci_2 (l : Launch) (hst : l.stackTraces = false) (Z : zZ) {t n r1 r2 : Nat} {μ : zM} (h : mkOk2 t n r1 r2) : zCtI l Z y2_init (zws (.code y2_init b2_init 3 none)) rmI2 [.ref (Z.2.2.1 + t), .ref (Z.2.2.1 + r1), .ref (Z.2.2.1 + r2)] (n, μ) (n + 10, mk2 t n r1 r2 μ) := by
  obtain ⟨h0, hp, hn, ⟨k1, l1⟩, ⟨k2, l2⟩, ⟨k3, l3⟩, ⟨k4, l4⟩, ⟨k5, l5⟩, ⟨k6, l6⟩, ⟨k7, l7⟩, ⟨k8, l8⟩, ⟨k9, l9⟩, ⟨k10, l10⟩, hz1, hz2⟩ := h
  refine zCtI.of (by decide) hst (Nat.le_of_ble_eq_true rfl) (fun K hK hKi hname hl => ?_)
  have hin2 : K.2.2.2.2.2.2.2.2.1.name = "<init>" := hname.trans rfl
  show zG K Z (zΩn Z) (zFi K Z) 10 499 0 [(0, .ref (Z.2.2.1 + t)), (1, .ref (Z.2.2.1 + r1)), (2, .ref (Z.2.2.1 + r2))] [] (n, μ) _
  refine g_aload_n hK 0 rfl rfl d2_init_0 ?_
  refine gn_oi hK q_45 q_29 q_30 (Nat.le_of_ble_eq_true rfl) (Nat.le_of_ble_eq_true rfl) d2_init_1 ?_
  refine g_aload_n hK 0 rfl rfl d2_init_4 ?_
  refine g_bipush hK d2_init_5 zkb8 ?_
  refine gn_newI hK (n := n) (cb := 9) (sb := 491) (len := 8) rfl (by decide) k1 l1 q_126 d2_init_7 ?_
  refine gn_putF hK hin2 (t := t) (r := (n + 1)) (j := 0) zfin_2 (fa_2_0 h0) (by omega) (Nat.succ_ne_zero _) q_46 (fun _ => rfl) (fun _ => rfl) rfl rfl (tyX2_ok 0 (by decide)) tyX2 tyX2_ok nmX2 d2_init_9 ?_
  refine g_aload_n hK 0 rfl rfl d2_init_12 ?_
  refine g_bipush hK d2_init_13 zkb60 ?_
  refine gn_newI hK (n := (n + 1)) (cb := 8) (sb := 431) (len := 60) rfl (by decide) k2 l2 q_126 d2_init_15 ?_
  refine gn_putF hK hin2 (t := t) (r := (n + 2)) (j := 4) zfin_2 (fa_2_4 h0) (by omega) (Nat.succ_ne_zero _) q_57 (fun _ => rfl) (fun _ => rfl) rfl rfl (tyX2_ok 4 (by decide)) tyX2 tyX2_ok nmX2 d2_init_17 ?_
  refine g_aload_n hK 0 rfl rfl d2_init_20 ?_
  refine g_bipush hK d2_init_21 zkb60 ?_
  refine gn_newI hK (n := (n + 2)) (cb := 7) (sb := 371) (len := 60) rfl (by decide) k3 l3 q_126 d2_init_23 ?_
  refine gn_putF hK hin2 (t := t) (r := (n + 3)) (j := 5) zfin_2 (fa_2_5 h0) (by omega) (Nat.succ_ne_zero _) q_61 (fun _ => rfl) (fun _ => rfl) rfl rfl (tyX2_ok 5 (by decide)) tyX2 tyX2_ok nmX2 d2_init_25 ?_
  refine g_aload_n hK 0 rfl rfl d2_init_28 ?_
  refine g_bipush hK d2_init_29 zkb60 ?_
  refine gn_newZ hK (n := (n + 3)) (cb := 6) (sb := 311) (len := 60) rfl (by decide) k4 l4 q_127 d2_init_31 ?_
  refine gn_putF hK hin2 (t := t) (r := (n + 4)) (j := 6) zfin_2 (fa_2_6 h0) (by omega) (Nat.succ_ne_zero _) q_65 (fun _ => rfl) (fun _ => rfl) rfl rfl (tyX2_ok 6 (by decide)) tyX2 tyX2_ok nmX2 d2_init_33 ?_
  refine g_aload_n hK 0 rfl rfl d2_init_36 ?_
  refine g_bipush hK d2_init_37 zkb60 ?_
  refine gn_newI hK (n := (n + 4)) (cb := 5) (sb := 251) (len := 60) rfl (by decide) k5 l5 q_126 d2_init_39 ?_
  refine gn_putF hK hin2 (t := t) (r := (n + 5)) (j := 7) zfin_2 (fa_2_7 h0) (by omega) (Nat.succ_ne_zero _) q_69 (fun _ => rfl) (fun _ => rfl) rfl rfl (tyX2_ok 7 (by decide)) tyX2 tyX2_ok nmX2 d2_init_41 ?_
  refine g_aload_n hK 0 rfl rfl d2_init_44 ?_
  refine g_bipush hK d2_init_45 zkb60 ?_
  refine gn_newI hK (n := (n + 5)) (cb := 4) (sb := 191) (len := 60) rfl (by decide) k6 l6 q_126 d2_init_47 ?_
  refine gn_putF hK hin2 (t := t) (r := (n + 6)) (j := 8) zfin_2 (fa_2_8 h0) (by omega) (Nat.succ_ne_zero _) q_73 (fun _ => rfl) (fun _ => rfl) rfl rfl (tyX2_ok 8 (by decide)) tyX2 tyX2_ok nmX2 d2_init_49 ?_
  refine g_aload_n hK 0 rfl rfl d2_init_52 ?_
  refine g_bipush hK d2_init_53 zkb10 ?_
  refine gn_newI hK (n := (n + 6)) (cb := 3) (sb := 181) (len := 10) rfl (by decide) k7 l7 q_126 d2_init_55 ?_
  refine gn_putF hK hin2 (t := t) (r := (n + 7)) (j := 9) zfin_2 (fa_2_9 h0) (by omega) (Nat.succ_ne_zero _) q_75 (fun _ => rfl) (fun _ => rfl) rfl rfl (tyX2_ok 9 (by decide)) tyX2 tyX2_ok nmX2 d2_init_57 ?_
  refine g_aload_n hK 0 rfl rfl d2_init_60 ?_
  refine g_bipush hK d2_init_61 zkb61 ?_
  refine gn_newI hK (n := (n + 7)) (cb := 2) (sb := 120) (len := 61) rfl (by decide) k8 l8 q_126 d2_init_63 ?_
  refine gn_putF hK hin2 (t := t) (r := (n + 8)) (j := 10) zfin_2 (fa_2_10 h0) (by omega) (Nat.succ_ne_zero _) q_78 (fun _ => rfl) (fun _ => rfl) rfl rfl (tyX2_ok 10 (by decide)) tyX2 tyX2_ok nmX2 d2_init_65 ?_
  refine g_aload_n hK 0 rfl rfl d2_init_68 ?_
  refine g_bipush hK d2_init_69 zkb60 ?_
  refine gn_newI hK (n := (n + 8)) (cb := 1) (sb := 60) (len := 60) rfl (by decide) k9 l9 q_126 d2_init_71 ?_
  refine gn_putF hK hin2 (t := t) (r := (n + 9)) (j := 13) zfin_2 (fa_2_13 h0) (by omega) (Nat.succ_ne_zero _) q_84 (fun _ => rfl) (fun _ => rfl) rfl rfl (tyX2_ok 13 (by decide)) tyX2 tyX2_ok nmX2 d2_init_73 ?_
  refine g_aload_n hK 0 rfl rfl d2_init_76 ?_
  refine g_bipush hK d2_init_77 zkb60 ?_
  refine gn_newI hK (n := (n + 9)) (cb := 0) (sb := 0) (len := 60) rfl (by decide) k10 l10 q_126 d2_init_79 ?_
  refine gn_putF hK hin2 (t := t) (r := (n + 10)) (j := 14) zfin_2 (fa_2_14 h0) (by omega) (Nat.succ_ne_zero _) q_86 (fun _ => rfl) (fun _ => rfl) rfl rfl (tyX2_ok 14 (by decide)) tyX2 tyX2_ok nmX2 d2_init_81 ?_
  refine g_aload_n hK 0 rfl rfl d2_init_84 ?_
  refine g_aload_n hK 1 rfl rfl d2_init_85 ?_
  refine gn_putF hK hin2 (t := t) (r := r1) (j := 11) zfin_2 (fa_2_11 h0) (by omega) hz1 q_80 (fun _ => rfl) (fun _ => rfl) rfl rfl (tyX2_ok 11 (by decide)) tyX2 tyX2_ok nmX2 d2_init_86 ?_
  refine g_aload_n hK 0 rfl rfl d2_init_89 ?_
  refine g_aload_n hK 2 rfl rfl d2_init_90 ?_
  refine gn_putF hK hin2 (t := t) (r := r2) (j := 12) zfin_2 (fa_2_12 h0) (by omega) hz2 q_82 (fun _ => rfl) (fun _ => rfl) rfl rfl (tyX2_ok 12 (by decide)) tyX2 tyX2_ok nmX2 d2_init_91 ?_
  exact gn_ret hK d2_init_94
def rmI6 : Room := { frames := 1, cells := 13, slots := 4229, locals := 12 }
def mk6 (t n : Nat) (μ : zM) : zM := (zsR (zsR (zsR (zsR (zsR (zsR (zsR (zsR (zsR (zsR (zsR (zsR (zsR μ t 2 (n + 1)) t 3 (n + 2)) t 4 (n + 3)) t 5 (n + 4)) t 6 (n + 5)) t 7 (n + 6)) t 8 (n + 7)) t 9 (n + 8)) t 10 (n + 9)) t 11 (n + 10)) t 12 (n + 11)) t 13 (n + 12)) t 14 (n + 13))
abbrev mkOk6 (t n : Nat) : Prop := zkd t = 6 ∧ 0 < t ∧ t ≤ n ∧ (zkd (n + 1) = 100 ∧ zln (n + 1) = 64) ∧ (zkd (n + 2) = 100 ∧ zln (n + 2) = 8) ∧ (zkd (n + 3) = 100 ∧ zln (n + 3) = 9) ∧ (zkd (n + 4) = 100 ∧ zln (n + 4) = 700) ∧ (zkd (n + 5) = 100 ∧ zln (n + 5) = 8) ∧ (zkd (n + 6) = 100 ∧ zln (n + 6) = 480) ∧ (zkd (n + 7) = 100 ∧ zln (n + 7) = 480) ∧ (zkd (n + 8) = 101 ∧ zln (n + 8) = 480) ∧ (zkd (n + 9) = 100 ∧ zln (n + 9) = 480) ∧ (zkd (n + 10) = 100 ∧ zln (n + 10) = 480) ∧ (zkd (n + 11) = 100 ∧ zln (n + 11) = 480) ∧ (zkd (n + 12) = 100 ∧ zln (n + 12) = 480) ∧ (zkd (n + 13) = 100 ∧ zln (n + 13) = 80)
theorem mk6_lt {t n k j : Nat} {μ : zM} (h : t ≤ n) (hk : k < t) : zR (mk6 t n μ) k j = zR μ k j := by
  unfold mk6
  rw [zR_nk (by omega), zR_nk (by omega), zR_nk (by omega), zR_nk (by omega), zR_nk (by omega), zR_nk (by omega), zR_nk (by omega), zR_nk (by omega), zR_nk (by omega), zR_nk (by omega), zR_nk (by omega), zR_nk (by omega), zR_nk (by omega)]
theorem mk6_gt {t n k j : Nat} {μ : zM} (hk : t < k) : zR (mk6 t n μ) k j = zR μ k j := by
  unfold mk6
  rw [zR_nk (by omega), zR_nk (by omega), zR_nk (by omega), zR_nk (by omega), zR_nk (by omega), zR_nk (by omega), zR_nk (by omega), zR_nk (by omega), zR_nk (by omega), zR_nk (by omega), zR_nk (by omega), zR_nk (by omega), zR_nk (by omega)]
set_option maxRecDepth 20000 in
theorem ci_6 (l : Launch) (hst : l.stackTraces = false) (Z : zZ) {t n : Nat} {μ : zM} (h : mkOk6 t n) : zCtI l Z y6_init (zws (.code y6_init b6_init 1 none)) rmI6 [.ref (Z.2.2.1 + t)] (n, μ) (n + 13, mk6 t n μ) := by
  obtain ⟨h0, hp, hn, ⟨k1, l1⟩, ⟨k2, l2⟩, ⟨k3, l3⟩, ⟨k4, l4⟩, ⟨k5, l5⟩, ⟨k6, l6⟩, ⟨k7, l7⟩, ⟨k8, l8⟩, ⟨k9, l9⟩, ⟨k10, l10⟩, ⟨k11, l11⟩, ⟨k12, l12⟩, ⟨k13, l13⟩⟩ := h
  refine zCtI.of (by decide) hst (Nat.le_of_ble_eq_true rfl) (fun K hK hKi hname hl => ?_)
  have hin2 : K.2.2.2.2.2.2.2.2.1.name = "<init>" := hname.trans rfl
  show zG K Z (zΩn Z) (zFi K Z) 13 4229 0 [(0, .ref (Z.2.2.1 + t))] [] (n, μ) _
  refine g_aload_n hK 0 rfl rfl d6_init_0 ?_
  refine gn_oi hK q_1137 q_29 q_30 (Nat.le_of_ble_eq_true rfl) (Nat.le_of_ble_eq_true rfl) d6_init_1 ?_
  refine g_aload_n hK 0 rfl rfl d6_init_4 ?_
  refine g_bipush hK d6_init_5 zkb64 ?_
  refine gn_newI hK (n := n) (cb := 12) (sb := 4165) (len := 64) rfl (by decide) k1 l1 q_126 d6_init_7 ?_
  refine gn_putF hK hin2 (t := t) (r := (n + 1)) (j := 2) zfin_6 (fa_6_2 h0) (by omega) (Nat.succ_ne_zero _) q_1140 (fun _ => rfl) (fun _ => rfl) rfl rfl (tyX6_ok 2 (by decide)) tyX6 tyX6_ok nmX6 d6_init_9 ?_
  refine g_aload_n hK 0 rfl rfl d6_init_12 ?_
  refine g_bipush hK d6_init_13 zkb8 ?_
  refine gn_newI hK (n := (n + 1)) (cb := 11) (sb := 4157) (len := 8) rfl (by decide) k2 l2 q_126 d6_init_15 ?_
  refine gn_putF hK hin2 (t := t) (r := (n + 2)) (j := 3) zfin_6 (fa_6_3 h0) (by omega) (Nat.succ_ne_zero _) q_1142 (fun _ => rfl) (fun _ => rfl) rfl rfl (tyX6_ok 3 (by decide)) tyX6 tyX6_ok nmX6 d6_init_17 ?_
  refine g_aload_n hK 0 rfl rfl d6_init_20 ?_
  refine g_bipush hK d6_init_21 zkb9 ?_
  refine gn_newI hK (n := (n + 2)) (cb := 10) (sb := 4148) (len := 9) rfl (by decide) k3 l3 q_126 d6_init_23 ?_
  refine gn_putF hK hin2 (t := t) (r := (n + 3)) (j := 4) zfin_6 (fa_6_4 h0) (by omega) (Nat.succ_ne_zero _) q_1144 (fun _ => rfl) (fun _ => rfl) rfl rfl (tyX6_ok 4 (by decide)) tyX6 tyX6_ok nmX6 d6_init_25 ?_
  refine g_aload_n hK 0 rfl rfl d6_init_28 ?_
  refine g_sipush hK d6_init_29 zks700 ?_
  refine gn_newI hK (n := (n + 3)) (cb := 9) (sb := 3448) (len := 700) rfl (by decide) k4 l4 q_126 d6_init_32 ?_
  refine gn_putF hK hin2 (t := t) (r := (n + 4)) (j := 5) zfin_6 (fa_6_5 h0) (by omega) (Nat.succ_ne_zero _) q_1146 (fun _ => rfl) (fun _ => rfl) rfl rfl (tyX6_ok 5 (by decide)) tyX6 tyX6_ok nmX6 d6_init_34 ?_
  refine g_aload_n hK 0 rfl rfl d6_init_37 ?_
  refine g_bipush hK d6_init_38 zkb8 ?_
  refine gn_newI hK (n := (n + 4)) (cb := 8) (sb := 3440) (len := 8) rfl (by decide) k5 l5 q_126 d6_init_40 ?_
  refine gn_putF hK hin2 (t := t) (r := (n + 5)) (j := 6) zfin_6 (fa_6_6 h0) (by omega) (Nat.succ_ne_zero _) q_1148 (fun _ => rfl) (fun _ => rfl) rfl rfl (tyX6_ok 6 (by decide)) tyX6 tyX6_ok nmX6 d6_init_42 ?_
  refine g_aload_n hK 0 rfl rfl d6_init_45 ?_
  refine g_sipush hK d6_init_46 zks480 ?_
  refine gn_newI hK (n := (n + 5)) (cb := 7) (sb := 2960) (len := 480) rfl (by decide) k6 l6 q_126 d6_init_49 ?_
  refine gn_putF hK hin2 (t := t) (r := (n + 6)) (j := 7) zfin_6 (fa_6_7 h0) (by omega) (Nat.succ_ne_zero _) q_1150 (fun _ => rfl) (fun _ => rfl) rfl rfl (tyX6_ok 7 (by decide)) tyX6 tyX6_ok nmX6 d6_init_51 ?_
  refine g_aload_n hK 0 rfl rfl d6_init_54 ?_
  refine g_sipush hK d6_init_55 zks480 ?_
  refine gn_newI hK (n := (n + 6)) (cb := 6) (sb := 2480) (len := 480) rfl (by decide) k7 l7 q_126 d6_init_58 ?_
  refine gn_putF hK hin2 (t := t) (r := (n + 7)) (j := 8) zfin_6 (fa_6_8 h0) (by omega) (Nat.succ_ne_zero _) q_1152 (fun _ => rfl) (fun _ => rfl) rfl rfl (tyX6_ok 8 (by decide)) tyX6 tyX6_ok nmX6 d6_init_60 ?_
  refine g_aload_n hK 0 rfl rfl d6_init_63 ?_
  refine g_sipush hK d6_init_64 zks480 ?_
  refine gn_newZ hK (n := (n + 7)) (cb := 5) (sb := 2000) (len := 480) rfl (by decide) k8 l8 q_127 d6_init_67 ?_
  refine gn_putF hK hin2 (t := t) (r := (n + 8)) (j := 9) zfin_6 (fa_6_9 h0) (by omega) (Nat.succ_ne_zero _) q_1154 (fun _ => rfl) (fun _ => rfl) rfl rfl (tyX6_ok 9 (by decide)) tyX6 tyX6_ok nmX6 d6_init_69 ?_
  refine g_aload_n hK 0 rfl rfl d6_init_72 ?_
  refine g_sipush hK d6_init_73 zks480 ?_
  refine gn_newI hK (n := (n + 8)) (cb := 4) (sb := 1520) (len := 480) rfl (by decide) k9 l9 q_126 d6_init_76 ?_
  refine gn_putF hK hin2 (t := t) (r := (n + 9)) (j := 10) zfin_6 (fa_6_10 h0) (by omega) (Nat.succ_ne_zero _) q_1156 (fun _ => rfl) (fun _ => rfl) rfl rfl (tyX6_ok 10 (by decide)) tyX6 tyX6_ok nmX6 d6_init_78 ?_
  refine g_aload_n hK 0 rfl rfl d6_init_81 ?_
  refine g_sipush hK d6_init_82 zks480 ?_
  refine gn_newI hK (n := (n + 9)) (cb := 3) (sb := 1040) (len := 480) rfl (by decide) k10 l10 q_126 d6_init_85 ?_
  refine gn_putF hK hin2 (t := t) (r := (n + 10)) (j := 11) zfin_6 (fa_6_11 h0) (by omega) (Nat.succ_ne_zero _) q_1158 (fun _ => rfl) (fun _ => rfl) rfl rfl (tyX6_ok 11 (by decide)) tyX6 tyX6_ok nmX6 d6_init_87 ?_
  refine g_aload_n hK 0 rfl rfl d6_init_90 ?_
  refine g_sipush hK d6_init_91 zks480 ?_
  refine gn_newI hK (n := (n + 10)) (cb := 2) (sb := 560) (len := 480) rfl (by decide) k11 l11 q_126 d6_init_94 ?_
  refine gn_putF hK hin2 (t := t) (r := (n + 11)) (j := 12) zfin_6 (fa_6_12 h0) (by omega) (Nat.succ_ne_zero _) q_1160 (fun _ => rfl) (fun _ => rfl) rfl rfl (tyX6_ok 12 (by decide)) tyX6 tyX6_ok nmX6 d6_init_96 ?_
  refine g_aload_n hK 0 rfl rfl d6_init_99 ?_
  refine g_sipush hK d6_init_100 zks480 ?_
  refine gn_newI hK (n := (n + 11)) (cb := 1) (sb := 80) (len := 480) rfl (by decide) k12 l12 q_126 d6_init_103 ?_
  refine gn_putF hK hin2 (t := t) (r := (n + 12)) (j := 13) zfin_6 (fa_6_13 h0) (by omega) (Nat.succ_ne_zero _) q_1162 (fun _ => rfl) (fun _ => rfl) rfl rfl (tyX6_ok 13 (by decide)) tyX6 tyX6_ok nmX6 d6_init_105 ?_
  refine g_aload_n hK 0 rfl rfl d6_init_108 ?_
  refine g_bipush hK d6_init_109 zkb80 ?_
  refine gn_newI hK (n := (n + 12)) (cb := 0) (sb := 0) (len := 80) rfl (by decide) k13 l13 q_126 d6_init_111 ?_
  refine gn_putF hK hin2 (t := t) (r := (n + 13)) (j := 14) zfin_6 (fa_6_14 h0) (by omega) (Nat.succ_ne_zero _) q_1164 (fun _ => rfl) (fun _ => rfl) rfl rfl (tyX6_ok 14 (by decide)) tyX6 tyX6_ok nmX6 d6_init_113 ?_
  exact gn_ret hK d6_init_116
def rmI0 : Room := { frames := 2, cells := 91, slots := 5536, locals := 34 }
def mk0_7 (μ : zM) : zM := (zsR (mk2 88 88 9 10 (zsR (mk2 77 77 9 10 (zsR (mk2 66 66 9 10 (zsR (mk2 55 55 9 10 (zsR (mk2 44 44 9 10 (zsR (mk2 33 33 9 10 (zsR (mk2 22 22 9 10 (zsR (mk2 11 11 9 10 (zsR μ 7 0 8)) 8 0 11)) 8 1 22)) 8 2 33)) 8 3 44)) 8 4 55)) 8 5 66)) 8 6 77)) 8 7 88)
set_option maxRecDepth 20000 in
theorem ci_0_7 (l : Launch) (hst : l.stackTraces = false) (Z : zZ) {μ : zM} : zCtI l Z y0_init (zws (.code y0_init b0_init 4 none)) rmI0 [.ref (Z.2.2.1 + 7)] (7, μ) (98, mk0_7 μ) := by
  refine zCtI.of (by decide) hst (Nat.le_of_ble_eq_true rfl) (fun K hK hKi hname hl => ?_)
  have hin2 : K.2.2.2.2.2.2.2.2.1.name = "<init>" := hname.trans rfl
  show zG K Z (zΩn Z) (zFi K Z) 91 5536 0 [(0, .ref (Z.2.2.1 + 7))] [] (7, μ) _
  refine g_aload_n hK 0 rfl rfl d0_init_0 ?_
  refine gn_oi hK q_38 q_29 q_30 (Nat.le_of_ble_eq_true rfl) (Nat.le_of_ble_eq_true rfl) d0_init_1 ?_
  refine g_aload_n hK 0 rfl rfl d0_init_4 ?_
  refine g_bipush hK d0_init_5 zkb8 ?_
  refine gn_newQ hK (n := 7) (cb := 90) (sb := 5528) (len := 8) (Or.inr ⟨rfl, rfl, rfl⟩) hKi.2.2 rfl (by decide) (by decide +kernel) (by decide +kernel) q_39 d0_init_7 ?_
  refine gn_putF hK hin2 (t := 7) (r := 8) (j := 0) zfin_0 (fa_0_0 (by decide +kernel)) (Nat.le_of_ble_eq_true rfl) (by decide) q_128 (fun _ => rfl) (fun _ => rfl) rfl rfl (tyX0_ok 0 (by decide)) tyX0 tyX0_ok nmX0 d0_init_10 ?_
  refine g_sipush hK d0_init_13 zks700 ?_
  refine gn_newI hK (n := 8) (cb := 89) (sb := 4828) (len := 700) rfl (by decide) (by decide +kernel) (by decide +kernel) q_126 d0_init_16 ?_
  refine g_astore_n hK (lv2 := [(0, .ref (Z.2.2.1 + 7)), (1, .ref (Z.2.2.1 + 9))]) [1, 0] rfl rfl (by decide) d0_init_18 ?_
  refine g_sipush hK d0_init_19 zks700 ?_
  refine gn_newI hK (n := 9) (cb := 88) (sb := 4128) (len := 700) rfl (by decide) (by decide +kernel) (by decide +kernel) q_126 d0_init_22 ?_
  refine g_astore_n hK (lv2 := [(0, .ref (Z.2.2.1 + 7)), (1, .ref (Z.2.2.1 + 9)), (2, .ref (Z.2.2.1 + 10))]) [1, 2, 0] rfl rfl (by decide) d0_init_24 ?_
  refine g_iconst hK d0_init_25 zki0 ?_
  refine g_istore_n hK (lv2 := [(0, .ref (Z.2.2.1 + 7)), (1, .ref (Z.2.2.1 + 9)), (2, .ref (Z.2.2.1 + 10)), (3, .int (zi 0))]) [1, 2, 3, 0] rfl rfl (by decide) d0_init_26 ?_
  refine g_iload_n hK 3 rfl rfl d0_init_27 ?_
  refine g_bipush hK d0_init_28 zkb8 ?_
  refine gn_ge0 hK (x := 0) (y := 8) (tgt := 54) zc0 zc8 (by decide) (by decide) d0_init_30 ?_
  refine g_aload_n hK 0 rfl rfl d0_init_33 ?_
  refine gn_getR hK (t := 7) (j := 0) (r := 8) zfin_0 (fa_0_0 (by decide +kernel)) (Nat.le_of_ble_eq_true rfl) (zR_eq rfl rfl) (by decide) q_128 d0_init_34 ?_
  refine g_iload_n hK 3 rfl rfl d0_init_37 ?_
  refine gn_new hK (n := 10) (cb := 87) (sb := 4111) (ci := 2) tyX2 zfin_2 rfl (by decide) (by decide +kernel) tyX2_ok hdf2 q_39 q_41 q_3 d0_init_38 ?_
  refine g_dup hK d0_init_41 rfl ?_
  refine g_aload_n hK 1 rfl rfl d0_init_42 ?_
  refine g_aload_n hK 2 rfl rfl d0_init_43 ?_
  refine gn_call hK hKi (b := 11) (rest := [.ref (Z.2.2.1 + 11), .int (zi 0), .ref (Z.2.2.1 + 8)]) (As := [.ref (Z.2.2.1 + 9), .ref (Z.2.2.1 + 10)]) (nA := 2) (cb := 77) (sb := 3612) (rm := rmI2) (q := (11, _)) (ci_2 K.2.1 hK.2.2.2.2.2.2.2.2.1 Z (by decide +kernel)) q_42 q_43 q_3 q_44 rfl rfl (by decide +kernel) (by decide) (Nat.le_of_ble_eq_true rfl) (Nat.le_of_ble_eq_true rfl) (Nat.le_of_ble_eq_true rfl) rfl d0_init_44 ?_
  refine gn_aast hK (t := 8) (i := 0) (r := 11) (kd := 105) (tq := 5) (ci := 2) (Or.inr ⟨rfl, rfl, rfl⟩) (by decide +kernel) (Nat.le_of_ble_eq_true rfl) (by decide +kernel) (by decide +kernel) (Nat.le_of_ble_eq_true rfl) d0_init_47 ?_
  refine gn_iinc hK (x := 0) (y := 1) rfl zc1 (lv2 := [(0, .ref (Z.2.2.1 + 7)), (1, .ref (Z.2.2.1 + 9)), (2, .ref (Z.2.2.1 + 10)), (3, .int (zi 1))]) 3 rfl [1, 2, 3, 0] rfl (by decide) d0_init_48 ?_
  refine g_goto hK (tgt := 27) (by decide) d0_init_51 ?_
  refine g_iload_n hK 3 rfl rfl d0_init_27 ?_
  refine g_bipush hK d0_init_28 zkb8 ?_
  refine gn_ge0 hK (x := 1) (y := 8) (tgt := 54) zc1 zc8 (by decide) (by decide) d0_init_30 ?_
  refine g_aload_n hK 0 rfl rfl d0_init_33 ?_
  refine gn_getR hK (t := 7) (j := 0) (r := 8) zfin_0 (fa_0_0 (by decide +kernel)) (Nat.le_of_ble_eq_true rfl) ((zR_nk (by decide)).trans ((mk2_lt (by decide) (by decide)).trans (zR_eq rfl rfl))) (by decide) q_128 d0_init_34 ?_
  refine g_iload_n hK 3 rfl rfl d0_init_37 ?_
  refine gn_new hK (n := 21) (cb := 76) (sb := 3595) (ci := 2) tyX2 zfin_2 rfl (by decide) (by decide +kernel) tyX2_ok hdf2 q_39 q_41 q_3 d0_init_38 ?_
  refine g_dup hK d0_init_41 rfl ?_
  refine g_aload_n hK 1 rfl rfl d0_init_42 ?_
  refine g_aload_n hK 2 rfl rfl d0_init_43 ?_
  refine gn_call hK hKi (b := 22) (rest := [.ref (Z.2.2.1 + 22), .int (zi 1), .ref (Z.2.2.1 + 8)]) (As := [.ref (Z.2.2.1 + 9), .ref (Z.2.2.1 + 10)]) (nA := 2) (cb := 66) (sb := 3096) (rm := rmI2) (q := (22, _)) (ci_2 K.2.1 hK.2.2.2.2.2.2.2.2.1 Z (by decide +kernel)) q_42 q_43 q_3 q_44 rfl rfl (by decide +kernel) (by decide) (Nat.le_of_ble_eq_true rfl) (Nat.le_of_ble_eq_true rfl) (Nat.le_of_ble_eq_true rfl) rfl d0_init_44 ?_
  refine gn_aast hK (t := 8) (i := 1) (r := 22) (kd := 105) (tq := 5) (ci := 2) (Or.inr ⟨rfl, rfl, rfl⟩) (by decide +kernel) (Nat.le_of_ble_eq_true rfl) (by decide +kernel) (by decide +kernel) (Nat.le_of_ble_eq_true rfl) d0_init_47 ?_
  refine gn_iinc hK (x := 1) (y := 2) rfl zc2 (lv2 := [(0, .ref (Z.2.2.1 + 7)), (1, .ref (Z.2.2.1 + 9)), (2, .ref (Z.2.2.1 + 10)), (3, .int (zi 2))]) 3 rfl [1, 2, 3, 0] rfl (by decide) d0_init_48 ?_
  refine g_goto hK (tgt := 27) (by decide) d0_init_51 ?_
  refine g_iload_n hK 3 rfl rfl d0_init_27 ?_
  refine g_bipush hK d0_init_28 zkb8 ?_
  refine gn_ge0 hK (x := 2) (y := 8) (tgt := 54) zc2 zc8 (by decide) (by decide) d0_init_30 ?_
  refine g_aload_n hK 0 rfl rfl d0_init_33 ?_
  refine gn_getR hK (t := 7) (j := 0) (r := 8) zfin_0 (fa_0_0 (by decide +kernel)) (Nat.le_of_ble_eq_true rfl) ((zR_nk (by decide)).trans ((mk2_lt (by decide) (by decide)).trans ((zR_nk (by decide)).trans ((mk2_lt (by decide) (by decide)).trans (zR_eq rfl rfl))))) (by decide) q_128 d0_init_34 ?_
  refine g_iload_n hK 3 rfl rfl d0_init_37 ?_
  refine gn_new hK (n := 32) (cb := 65) (sb := 3079) (ci := 2) tyX2 zfin_2 rfl (by decide) (by decide +kernel) tyX2_ok hdf2 q_39 q_41 q_3 d0_init_38 ?_
  refine g_dup hK d0_init_41 rfl ?_
  refine g_aload_n hK 1 rfl rfl d0_init_42 ?_
  refine g_aload_n hK 2 rfl rfl d0_init_43 ?_
  refine gn_call hK hKi (b := 33) (rest := [.ref (Z.2.2.1 + 33), .int (zi 2), .ref (Z.2.2.1 + 8)]) (As := [.ref (Z.2.2.1 + 9), .ref (Z.2.2.1 + 10)]) (nA := 2) (cb := 55) (sb := 2580) (rm := rmI2) (q := (33, _)) (ci_2 K.2.1 hK.2.2.2.2.2.2.2.2.1 Z (by decide +kernel)) q_42 q_43 q_3 q_44 rfl rfl (by decide +kernel) (by decide) (Nat.le_of_ble_eq_true rfl) (Nat.le_of_ble_eq_true rfl) (Nat.le_of_ble_eq_true rfl) rfl d0_init_44 ?_
  refine gn_aast hK (t := 8) (i := 2) (r := 33) (kd := 105) (tq := 5) (ci := 2) (Or.inr ⟨rfl, rfl, rfl⟩) (by decide +kernel) (Nat.le_of_ble_eq_true rfl) (by decide +kernel) (by decide +kernel) (Nat.le_of_ble_eq_true rfl) d0_init_47 ?_
  refine gn_iinc hK (x := 2) (y := 3) rfl zc3 (lv2 := [(0, .ref (Z.2.2.1 + 7)), (1, .ref (Z.2.2.1 + 9)), (2, .ref (Z.2.2.1 + 10)), (3, .int (zi 3))]) 3 rfl [1, 2, 3, 0] rfl (by decide) d0_init_48 ?_
  refine g_goto hK (tgt := 27) (by decide) d0_init_51 ?_
  refine g_iload_n hK 3 rfl rfl d0_init_27 ?_
  refine g_bipush hK d0_init_28 zkb8 ?_
  refine gn_ge0 hK (x := 3) (y := 8) (tgt := 54) zc3 zc8 (by decide) (by decide) d0_init_30 ?_
  refine g_aload_n hK 0 rfl rfl d0_init_33 ?_
  refine gn_getR hK (t := 7) (j := 0) (r := 8) zfin_0 (fa_0_0 (by decide +kernel)) (Nat.le_of_ble_eq_true rfl) ((zR_nk (by decide)).trans ((mk2_lt (by decide) (by decide)).trans ((zR_nk (by decide)).trans ((mk2_lt (by decide) (by decide)).trans ((zR_nk (by decide)).trans ((mk2_lt (by decide) (by decide)).trans (zR_eq rfl rfl))))))) (by decide) q_128 d0_init_34 ?_
  refine g_iload_n hK 3 rfl rfl d0_init_37 ?_
  refine gn_new hK (n := 43) (cb := 54) (sb := 2563) (ci := 2) tyX2 zfin_2 rfl (by decide) (by decide +kernel) tyX2_ok hdf2 q_39 q_41 q_3 d0_init_38 ?_
  refine g_dup hK d0_init_41 rfl ?_
  refine g_aload_n hK 1 rfl rfl d0_init_42 ?_
  refine g_aload_n hK 2 rfl rfl d0_init_43 ?_
  refine gn_call hK hKi (b := 44) (rest := [.ref (Z.2.2.1 + 44), .int (zi 3), .ref (Z.2.2.1 + 8)]) (As := [.ref (Z.2.2.1 + 9), .ref (Z.2.2.1 + 10)]) (nA := 2) (cb := 44) (sb := 2064) (rm := rmI2) (q := (44, _)) (ci_2 K.2.1 hK.2.2.2.2.2.2.2.2.1 Z (by decide +kernel)) q_42 q_43 q_3 q_44 rfl rfl (by decide +kernel) (by decide) (Nat.le_of_ble_eq_true rfl) (Nat.le_of_ble_eq_true rfl) (Nat.le_of_ble_eq_true rfl) rfl d0_init_44 ?_
  refine gn_aast hK (t := 8) (i := 3) (r := 44) (kd := 105) (tq := 5) (ci := 2) (Or.inr ⟨rfl, rfl, rfl⟩) (by decide +kernel) (Nat.le_of_ble_eq_true rfl) (by decide +kernel) (by decide +kernel) (Nat.le_of_ble_eq_true rfl) d0_init_47 ?_
  refine gn_iinc hK (x := 3) (y := 4) rfl zc4 (lv2 := [(0, .ref (Z.2.2.1 + 7)), (1, .ref (Z.2.2.1 + 9)), (2, .ref (Z.2.2.1 + 10)), (3, .int (zi 4))]) 3 rfl [1, 2, 3, 0] rfl (by decide) d0_init_48 ?_
  refine g_goto hK (tgt := 27) (by decide) d0_init_51 ?_
  refine g_iload_n hK 3 rfl rfl d0_init_27 ?_
  refine g_bipush hK d0_init_28 zkb8 ?_
  refine gn_ge0 hK (x := 4) (y := 8) (tgt := 54) zc4 zc8 (by decide) (by decide) d0_init_30 ?_
  refine g_aload_n hK 0 rfl rfl d0_init_33 ?_
  refine gn_getR hK (t := 7) (j := 0) (r := 8) zfin_0 (fa_0_0 (by decide +kernel)) (Nat.le_of_ble_eq_true rfl) ((zR_nk (by decide)).trans ((mk2_lt (by decide) (by decide)).trans ((zR_nk (by decide)).trans ((mk2_lt (by decide) (by decide)).trans ((zR_nk (by decide)).trans ((mk2_lt (by decide) (by decide)).trans ((zR_nk (by decide)).trans ((mk2_lt (by decide) (by decide)).trans (zR_eq rfl rfl))))))))) (by decide) q_128 d0_init_34 ?_
  refine g_iload_n hK 3 rfl rfl d0_init_37 ?_
  refine gn_new hK (n := 54) (cb := 43) (sb := 2047) (ci := 2) tyX2 zfin_2 rfl (by decide) (by decide +kernel) tyX2_ok hdf2 q_39 q_41 q_3 d0_init_38 ?_
  refine g_dup hK d0_init_41 rfl ?_
  refine g_aload_n hK 1 rfl rfl d0_init_42 ?_
  refine g_aload_n hK 2 rfl rfl d0_init_43 ?_
  refine gn_call hK hKi (b := 55) (rest := [.ref (Z.2.2.1 + 55), .int (zi 4), .ref (Z.2.2.1 + 8)]) (As := [.ref (Z.2.2.1 + 9), .ref (Z.2.2.1 + 10)]) (nA := 2) (cb := 33) (sb := 1548) (rm := rmI2) (q := (55, _)) (ci_2 K.2.1 hK.2.2.2.2.2.2.2.2.1 Z (by decide +kernel)) q_42 q_43 q_3 q_44 rfl rfl (by decide +kernel) (by decide) (Nat.le_of_ble_eq_true rfl) (Nat.le_of_ble_eq_true rfl) (Nat.le_of_ble_eq_true rfl) rfl d0_init_44 ?_
  refine gn_aast hK (t := 8) (i := 4) (r := 55) (kd := 105) (tq := 5) (ci := 2) (Or.inr ⟨rfl, rfl, rfl⟩) (by decide +kernel) (Nat.le_of_ble_eq_true rfl) (by decide +kernel) (by decide +kernel) (Nat.le_of_ble_eq_true rfl) d0_init_47 ?_
  refine gn_iinc hK (x := 4) (y := 5) rfl zc5 (lv2 := [(0, .ref (Z.2.2.1 + 7)), (1, .ref (Z.2.2.1 + 9)), (2, .ref (Z.2.2.1 + 10)), (3, .int (zi 5))]) 3 rfl [1, 2, 3, 0] rfl (by decide) d0_init_48 ?_
  refine g_goto hK (tgt := 27) (by decide) d0_init_51 ?_
  refine g_iload_n hK 3 rfl rfl d0_init_27 ?_
  refine g_bipush hK d0_init_28 zkb8 ?_
  refine gn_ge0 hK (x := 5) (y := 8) (tgt := 54) zc5 zc8 (by decide) (by decide) d0_init_30 ?_
  refine g_aload_n hK 0 rfl rfl d0_init_33 ?_
  refine gn_getR hK (t := 7) (j := 0) (r := 8) zfin_0 (fa_0_0 (by decide +kernel)) (Nat.le_of_ble_eq_true rfl) ((zR_nk (by decide)).trans ((mk2_lt (by decide) (by decide)).trans ((zR_nk (by decide)).trans ((mk2_lt (by decide) (by decide)).trans ((zR_nk (by decide)).trans ((mk2_lt (by decide) (by decide)).trans ((zR_nk (by decide)).trans ((mk2_lt (by decide) (by decide)).trans ((zR_nk (by decide)).trans ((mk2_lt (by decide) (by decide)).trans (zR_eq rfl rfl))))))))))) (by decide) q_128 d0_init_34 ?_
  refine g_iload_n hK 3 rfl rfl d0_init_37 ?_
  refine gn_new hK (n := 65) (cb := 32) (sb := 1531) (ci := 2) tyX2 zfin_2 rfl (by decide) (by decide +kernel) tyX2_ok hdf2 q_39 q_41 q_3 d0_init_38 ?_
  refine g_dup hK d0_init_41 rfl ?_
  refine g_aload_n hK 1 rfl rfl d0_init_42 ?_
  refine g_aload_n hK 2 rfl rfl d0_init_43 ?_
  refine gn_call hK hKi (b := 66) (rest := [.ref (Z.2.2.1 + 66), .int (zi 5), .ref (Z.2.2.1 + 8)]) (As := [.ref (Z.2.2.1 + 9), .ref (Z.2.2.1 + 10)]) (nA := 2) (cb := 22) (sb := 1032) (rm := rmI2) (q := (66, _)) (ci_2 K.2.1 hK.2.2.2.2.2.2.2.2.1 Z (by decide +kernel)) q_42 q_43 q_3 q_44 rfl rfl (by decide +kernel) (by decide) (Nat.le_of_ble_eq_true rfl) (Nat.le_of_ble_eq_true rfl) (Nat.le_of_ble_eq_true rfl) rfl d0_init_44 ?_
  refine gn_aast hK (t := 8) (i := 5) (r := 66) (kd := 105) (tq := 5) (ci := 2) (Or.inr ⟨rfl, rfl, rfl⟩) (by decide +kernel) (Nat.le_of_ble_eq_true rfl) (by decide +kernel) (by decide +kernel) (Nat.le_of_ble_eq_true rfl) d0_init_47 ?_
  refine gn_iinc hK (x := 5) (y := 6) rfl zc6 (lv2 := [(0, .ref (Z.2.2.1 + 7)), (1, .ref (Z.2.2.1 + 9)), (2, .ref (Z.2.2.1 + 10)), (3, .int (zi 6))]) 3 rfl [1, 2, 3, 0] rfl (by decide) d0_init_48 ?_
  refine g_goto hK (tgt := 27) (by decide) d0_init_51 ?_
  refine g_iload_n hK 3 rfl rfl d0_init_27 ?_
  refine g_bipush hK d0_init_28 zkb8 ?_
  refine gn_ge0 hK (x := 6) (y := 8) (tgt := 54) zc6 zc8 (by decide) (by decide) d0_init_30 ?_
  refine g_aload_n hK 0 rfl rfl d0_init_33 ?_
  refine gn_getR hK (t := 7) (j := 0) (r := 8) zfin_0 (fa_0_0 (by decide +kernel)) (Nat.le_of_ble_eq_true rfl) ((zR_nk (by decide)).trans ((mk2_lt (by decide) (by decide)).trans ((zR_nk (by decide)).trans ((mk2_lt (by decide) (by decide)).trans ((zR_nk (by decide)).trans ((mk2_lt (by decide) (by decide)).trans ((zR_nk (by decide)).trans ((mk2_lt (by decide) (by decide)).trans ((zR_nk (by decide)).trans ((mk2_lt (by decide) (by decide)).trans ((zR_nk (by decide)).trans ((mk2_lt (by decide) (by decide)).trans (zR_eq rfl rfl))))))))))))) (by decide) q_128 d0_init_34 ?_
  refine g_iload_n hK 3 rfl rfl d0_init_37 ?_
  refine gn_new hK (n := 76) (cb := 21) (sb := 1015) (ci := 2) tyX2 zfin_2 rfl (by decide) (by decide +kernel) tyX2_ok hdf2 q_39 q_41 q_3 d0_init_38 ?_
  refine g_dup hK d0_init_41 rfl ?_
  refine g_aload_n hK 1 rfl rfl d0_init_42 ?_
  refine g_aload_n hK 2 rfl rfl d0_init_43 ?_
  refine gn_call hK hKi (b := 77) (rest := [.ref (Z.2.2.1 + 77), .int (zi 6), .ref (Z.2.2.1 + 8)]) (As := [.ref (Z.2.2.1 + 9), .ref (Z.2.2.1 + 10)]) (nA := 2) (cb := 11) (sb := 516) (rm := rmI2) (q := (77, _)) (ci_2 K.2.1 hK.2.2.2.2.2.2.2.2.1 Z (by decide +kernel)) q_42 q_43 q_3 q_44 rfl rfl (by decide +kernel) (by decide) (Nat.le_of_ble_eq_true rfl) (Nat.le_of_ble_eq_true rfl) (Nat.le_of_ble_eq_true rfl) rfl d0_init_44 ?_
  refine gn_aast hK (t := 8) (i := 6) (r := 77) (kd := 105) (tq := 5) (ci := 2) (Or.inr ⟨rfl, rfl, rfl⟩) (by decide +kernel) (Nat.le_of_ble_eq_true rfl) (by decide +kernel) (by decide +kernel) (Nat.le_of_ble_eq_true rfl) d0_init_47 ?_
  refine gn_iinc hK (x := 6) (y := 7) rfl zc7 (lv2 := [(0, .ref (Z.2.2.1 + 7)), (1, .ref (Z.2.2.1 + 9)), (2, .ref (Z.2.2.1 + 10)), (3, .int (zi 7))]) 3 rfl [1, 2, 3, 0] rfl (by decide) d0_init_48 ?_
  refine g_goto hK (tgt := 27) (by decide) d0_init_51 ?_
  refine g_iload_n hK 3 rfl rfl d0_init_27 ?_
  refine g_bipush hK d0_init_28 zkb8 ?_
  refine gn_ge0 hK (x := 7) (y := 8) (tgt := 54) zc7 zc8 (by decide) (by decide) d0_init_30 ?_
  refine g_aload_n hK 0 rfl rfl d0_init_33 ?_
  refine gn_getR hK (t := 7) (j := 0) (r := 8) zfin_0 (fa_0_0 (by decide +kernel)) (Nat.le_of_ble_eq_true rfl) ((zR_nk (by decide)).trans ((mk2_lt (by decide) (by decide)).trans ((zR_nk (by decide)).trans ((mk2_lt (by decide) (by decide)).trans ((zR_nk (by decide)).trans ((mk2_lt (by decide) (by decide)).trans ((zR_nk (by decide)).trans ((mk2_lt (by decide) (by decide)).trans ((zR_nk (by decide)).trans ((mk2_lt (by decide) (by decide)).trans ((zR_nk (by decide)).trans ((mk2_lt (by decide) (by decide)).trans ((zR_nk (by decide)).trans ((mk2_lt (by decide) (by decide)).trans (zR_eq rfl rfl))))))))))))))) (by decide) q_128 d0_init_34 ?_
  refine g_iload_n hK 3 rfl rfl d0_init_37 ?_
  refine gn_new hK (n := 87) (cb := 10) (sb := 499) (ci := 2) tyX2 zfin_2 rfl (by decide) (by decide +kernel) tyX2_ok hdf2 q_39 q_41 q_3 d0_init_38 ?_
  refine g_dup hK d0_init_41 rfl ?_
  refine g_aload_n hK 1 rfl rfl d0_init_42 ?_
  refine g_aload_n hK 2 rfl rfl d0_init_43 ?_
  refine gn_call hK hKi (b := 88) (rest := [.ref (Z.2.2.1 + 88), .int (zi 7), .ref (Z.2.2.1 + 8)]) (As := [.ref (Z.2.2.1 + 9), .ref (Z.2.2.1 + 10)]) (nA := 2) (cb := 0) (sb := 0) (rm := rmI2) (q := (88, _)) (ci_2 K.2.1 hK.2.2.2.2.2.2.2.2.1 Z (by decide +kernel)) q_42 q_43 q_3 q_44 rfl rfl (by decide +kernel) (by decide) (Nat.le_of_ble_eq_true rfl) (Nat.le_of_ble_eq_true rfl) (Nat.le_of_ble_eq_true rfl) rfl d0_init_44 ?_
  refine gn_aast hK (t := 8) (i := 7) (r := 88) (kd := 105) (tq := 5) (ci := 2) (Or.inr ⟨rfl, rfl, rfl⟩) (by decide +kernel) (Nat.le_of_ble_eq_true rfl) (by decide +kernel) (by decide +kernel) (Nat.le_of_ble_eq_true rfl) d0_init_47 ?_
  refine gn_iinc hK (x := 7) (y := 8) rfl zc8 (lv2 := [(0, .ref (Z.2.2.1 + 7)), (1, .ref (Z.2.2.1 + 9)), (2, .ref (Z.2.2.1 + 10)), (3, .int (zi 8))]) 3 rfl [1, 2, 3, 0] rfl (by decide) d0_init_48 ?_
  refine g_goto hK (tgt := 27) (by decide) d0_init_51 ?_
  refine g_iload_n hK 3 rfl rfl d0_init_27 ?_
  refine g_bipush hK d0_init_28 zkb8 ?_
  refine gn_ge1 hK (x := 8) (y := 8) (tgt := 54) zc8 zc8 (by decide) (by decide) d0_init_30 ?_
  exact gn_ret hK d0_init_54
theorem mk0_7_lt {k j : Nat} {μ : zM} (hk : k < 7) : zR (mk0_7 μ) k j = zR μ k j := by
  unfold mk0_7
  rw [zR_nk (by omega), mk2_lt (by decide) (by omega), zR_nk (by omega), mk2_lt (by decide) (by omega), zR_nk (by omega), mk2_lt (by decide) (by omega), zR_nk (by omega), mk2_lt (by decide) (by omega), zR_nk (by omega), mk2_lt (by decide) (by omega), zR_nk (by omega), mk2_lt (by decide) (by omega), zR_nk (by omega), mk2_lt (by decide) (by omega), zR_nk (by omega), mk2_lt (by decide) (by omega), zR_nk (by omega)]
def mk0_101 (μ : zM) : zM := (zsR (mk2 182 182 103 104 (zsR (mk2 171 171 103 104 (zsR (mk2 160 160 103 104 (zsR (mk2 149 149 103 104 (zsR (mk2 138 138 103 104 (zsR (mk2 127 127 103 104 (zsR (mk2 116 116 103 104 (zsR (mk2 105 105 103 104 (zsR μ 101 0 102)) 102 0 105)) 102 1 116)) 102 2 127)) 102 3 138)) 102 4 149)) 102 5 160)) 102 6 171)) 102 7 182)
set_option maxRecDepth 20000 in
theorem ci_0_101 (l : Launch) (hst : l.stackTraces = false) (Z : zZ) {μ : zM} : zCtI l Z y0_init (zws (.code y0_init b0_init 4 none)) rmI0 [.ref (Z.2.2.1 + 101)] (101, μ) (192, mk0_101 μ) := by
  refine zCtI.of (by decide) hst (Nat.le_of_ble_eq_true rfl) (fun K hK hKi hname hl => ?_)
  have hin2 : K.2.2.2.2.2.2.2.2.1.name = "<init>" := hname.trans rfl
  show zG K Z (zΩn Z) (zFi K Z) 91 5536 0 [(0, .ref (Z.2.2.1 + 101))] [] (101, μ) _
  refine g_aload_n hK 0 rfl rfl d0_init_0 ?_
  refine gn_oi hK q_38 q_29 q_30 (Nat.le_of_ble_eq_true rfl) (Nat.le_of_ble_eq_true rfl) d0_init_1 ?_
  refine g_aload_n hK 0 rfl rfl d0_init_4 ?_
  refine g_bipush hK d0_init_5 zkb8 ?_
  refine gn_newQ hK (n := 101) (cb := 90) (sb := 5528) (len := 8) (Or.inr ⟨rfl, rfl, rfl⟩) hKi.2.2 rfl (by decide) (by decide +kernel) (by decide +kernel) q_39 d0_init_7 ?_
  refine gn_putF hK hin2 (t := 101) (r := 102) (j := 0) zfin_0 (fa_0_0 (by decide +kernel)) (Nat.le_of_ble_eq_true rfl) (by decide) q_128 (fun _ => rfl) (fun _ => rfl) rfl rfl (tyX0_ok 0 (by decide)) tyX0 tyX0_ok nmX0 d0_init_10 ?_
  refine g_sipush hK d0_init_13 zks700 ?_
  refine gn_newI hK (n := 102) (cb := 89) (sb := 4828) (len := 700) rfl (by decide) (by decide +kernel) (by decide +kernel) q_126 d0_init_16 ?_
  refine g_astore_n hK (lv2 := [(0, .ref (Z.2.2.1 + 101)), (1, .ref (Z.2.2.1 + 103))]) [1, 0] rfl rfl (by decide) d0_init_18 ?_
  refine g_sipush hK d0_init_19 zks700 ?_
  refine gn_newI hK (n := 103) (cb := 88) (sb := 4128) (len := 700) rfl (by decide) (by decide +kernel) (by decide +kernel) q_126 d0_init_22 ?_
  refine g_astore_n hK (lv2 := [(0, .ref (Z.2.2.1 + 101)), (1, .ref (Z.2.2.1 + 103)), (2, .ref (Z.2.2.1 + 104))]) [1, 2, 0] rfl rfl (by decide) d0_init_24 ?_
  refine g_iconst hK d0_init_25 zki0 ?_
  refine g_istore_n hK (lv2 := [(0, .ref (Z.2.2.1 + 101)), (1, .ref (Z.2.2.1 + 103)), (2, .ref (Z.2.2.1 + 104)), (3, .int (zi 0))]) [1, 2, 3, 0] rfl rfl (by decide) d0_init_26 ?_
  refine g_iload_n hK 3 rfl rfl d0_init_27 ?_
  refine g_bipush hK d0_init_28 zkb8 ?_
  refine gn_ge0 hK (x := 0) (y := 8) (tgt := 54) zc0 zc8 (by decide) (by decide) d0_init_30 ?_
  refine g_aload_n hK 0 rfl rfl d0_init_33 ?_
  refine gn_getR hK (t := 101) (j := 0) (r := 102) zfin_0 (fa_0_0 (by decide +kernel)) (Nat.le_of_ble_eq_true rfl) (zR_eq rfl rfl) (by decide) q_128 d0_init_34 ?_
  refine g_iload_n hK 3 rfl rfl d0_init_37 ?_
  refine gn_new hK (n := 104) (cb := 87) (sb := 4111) (ci := 2) tyX2 zfin_2 rfl (by decide) (by decide +kernel) tyX2_ok hdf2 q_39 q_41 q_3 d0_init_38 ?_
  refine g_dup hK d0_init_41 rfl ?_
  refine g_aload_n hK 1 rfl rfl d0_init_42 ?_
  refine g_aload_n hK 2 rfl rfl d0_init_43 ?_
  refine gn_call hK hKi (b := 105) (rest := [.ref (Z.2.2.1 + 105), .int (zi 0), .ref (Z.2.2.1 + 102)]) (As := [.ref (Z.2.2.1 + 103), .ref (Z.2.2.1 + 104)]) (nA := 2) (cb := 77) (sb := 3612) (rm := rmI2) (q := (105, _)) (ci_2 K.2.1 hK.2.2.2.2.2.2.2.2.1 Z (by decide +kernel)) q_42 q_43 q_3 q_44 rfl rfl (by decide +kernel) (by decide) (Nat.le_of_ble_eq_true rfl) (Nat.le_of_ble_eq_true rfl) (Nat.le_of_ble_eq_true rfl) rfl d0_init_44 ?_
  refine gn_aast hK (t := 102) (i := 0) (r := 105) (kd := 105) (tq := 5) (ci := 2) (Or.inr ⟨rfl, rfl, rfl⟩) (by decide +kernel) (Nat.le_of_ble_eq_true rfl) (by decide +kernel) (by decide +kernel) (Nat.le_of_ble_eq_true rfl) d0_init_47 ?_
  refine gn_iinc hK (x := 0) (y := 1) rfl zc1 (lv2 := [(0, .ref (Z.2.2.1 + 101)), (1, .ref (Z.2.2.1 + 103)), (2, .ref (Z.2.2.1 + 104)), (3, .int (zi 1))]) 3 rfl [1, 2, 3, 0] rfl (by decide) d0_init_48 ?_
  refine g_goto hK (tgt := 27) (by decide) d0_init_51 ?_
  refine g_iload_n hK 3 rfl rfl d0_init_27 ?_
  refine g_bipush hK d0_init_28 zkb8 ?_
  refine gn_ge0 hK (x := 1) (y := 8) (tgt := 54) zc1 zc8 (by decide) (by decide) d0_init_30 ?_
  refine g_aload_n hK 0 rfl rfl d0_init_33 ?_
  refine gn_getR hK (t := 101) (j := 0) (r := 102) zfin_0 (fa_0_0 (by decide +kernel)) (Nat.le_of_ble_eq_true rfl) ((zR_nk (by decide)).trans ((mk2_lt (by decide) (by decide)).trans (zR_eq rfl rfl))) (by decide) q_128 d0_init_34 ?_
  refine g_iload_n hK 3 rfl rfl d0_init_37 ?_
  refine gn_new hK (n := 115) (cb := 76) (sb := 3595) (ci := 2) tyX2 zfin_2 rfl (by decide) (by decide +kernel) tyX2_ok hdf2 q_39 q_41 q_3 d0_init_38 ?_
  refine g_dup hK d0_init_41 rfl ?_
  refine g_aload_n hK 1 rfl rfl d0_init_42 ?_
  refine g_aload_n hK 2 rfl rfl d0_init_43 ?_
  refine gn_call hK hKi (b := 116) (rest := [.ref (Z.2.2.1 + 116), .int (zi 1), .ref (Z.2.2.1 + 102)]) (As := [.ref (Z.2.2.1 + 103), .ref (Z.2.2.1 + 104)]) (nA := 2) (cb := 66) (sb := 3096) (rm := rmI2) (q := (116, _)) (ci_2 K.2.1 hK.2.2.2.2.2.2.2.2.1 Z (by decide +kernel)) q_42 q_43 q_3 q_44 rfl rfl (by decide +kernel) (by decide) (Nat.le_of_ble_eq_true rfl) (Nat.le_of_ble_eq_true rfl) (Nat.le_of_ble_eq_true rfl) rfl d0_init_44 ?_
  refine gn_aast hK (t := 102) (i := 1) (r := 116) (kd := 105) (tq := 5) (ci := 2) (Or.inr ⟨rfl, rfl, rfl⟩) (by decide +kernel) (Nat.le_of_ble_eq_true rfl) (by decide +kernel) (by decide +kernel) (Nat.le_of_ble_eq_true rfl) d0_init_47 ?_
  refine gn_iinc hK (x := 1) (y := 2) rfl zc2 (lv2 := [(0, .ref (Z.2.2.1 + 101)), (1, .ref (Z.2.2.1 + 103)), (2, .ref (Z.2.2.1 + 104)), (3, .int (zi 2))]) 3 rfl [1, 2, 3, 0] rfl (by decide) d0_init_48 ?_
  refine g_goto hK (tgt := 27) (by decide) d0_init_51 ?_
  refine g_iload_n hK 3 rfl rfl d0_init_27 ?_
  refine g_bipush hK d0_init_28 zkb8 ?_
  refine gn_ge0 hK (x := 2) (y := 8) (tgt := 54) zc2 zc8 (by decide) (by decide) d0_init_30 ?_
  refine g_aload_n hK 0 rfl rfl d0_init_33 ?_
  refine gn_getR hK (t := 101) (j := 0) (r := 102) zfin_0 (fa_0_0 (by decide +kernel)) (Nat.le_of_ble_eq_true rfl) ((zR_nk (by decide)).trans ((mk2_lt (by decide) (by decide)).trans ((zR_nk (by decide)).trans ((mk2_lt (by decide) (by decide)).trans (zR_eq rfl rfl))))) (by decide) q_128 d0_init_34 ?_
  refine g_iload_n hK 3 rfl rfl d0_init_37 ?_
  refine gn_new hK (n := 126) (cb := 65) (sb := 3079) (ci := 2) tyX2 zfin_2 rfl (by decide) (by decide +kernel) tyX2_ok hdf2 q_39 q_41 q_3 d0_init_38 ?_
  refine g_dup hK d0_init_41 rfl ?_
  refine g_aload_n hK 1 rfl rfl d0_init_42 ?_
  refine g_aload_n hK 2 rfl rfl d0_init_43 ?_
  refine gn_call hK hKi (b := 127) (rest := [.ref (Z.2.2.1 + 127), .int (zi 2), .ref (Z.2.2.1 + 102)]) (As := [.ref (Z.2.2.1 + 103), .ref (Z.2.2.1 + 104)]) (nA := 2) (cb := 55) (sb := 2580) (rm := rmI2) (q := (127, _)) (ci_2 K.2.1 hK.2.2.2.2.2.2.2.2.1 Z (by decide +kernel)) q_42 q_43 q_3 q_44 rfl rfl (by decide +kernel) (by decide) (Nat.le_of_ble_eq_true rfl) (Nat.le_of_ble_eq_true rfl) (Nat.le_of_ble_eq_true rfl) rfl d0_init_44 ?_
  refine gn_aast hK (t := 102) (i := 2) (r := 127) (kd := 105) (tq := 5) (ci := 2) (Or.inr ⟨rfl, rfl, rfl⟩) (by decide +kernel) (Nat.le_of_ble_eq_true rfl) (by decide +kernel) (by decide +kernel) (Nat.le_of_ble_eq_true rfl) d0_init_47 ?_
  refine gn_iinc hK (x := 2) (y := 3) rfl zc3 (lv2 := [(0, .ref (Z.2.2.1 + 101)), (1, .ref (Z.2.2.1 + 103)), (2, .ref (Z.2.2.1 + 104)), (3, .int (zi 3))]) 3 rfl [1, 2, 3, 0] rfl (by decide) d0_init_48 ?_
  refine g_goto hK (tgt := 27) (by decide) d0_init_51 ?_
  refine g_iload_n hK 3 rfl rfl d0_init_27 ?_
  refine g_bipush hK d0_init_28 zkb8 ?_
  refine gn_ge0 hK (x := 3) (y := 8) (tgt := 54) zc3 zc8 (by decide) (by decide) d0_init_30 ?_
  refine g_aload_n hK 0 rfl rfl d0_init_33 ?_
  refine gn_getR hK (t := 101) (j := 0) (r := 102) zfin_0 (fa_0_0 (by decide +kernel)) (Nat.le_of_ble_eq_true rfl) ((zR_nk (by decide)).trans ((mk2_lt (by decide) (by decide)).trans ((zR_nk (by decide)).trans ((mk2_lt (by decide) (by decide)).trans ((zR_nk (by decide)).trans ((mk2_lt (by decide) (by decide)).trans (zR_eq rfl rfl))))))) (by decide) q_128 d0_init_34 ?_
  refine g_iload_n hK 3 rfl rfl d0_init_37 ?_
  refine gn_new hK (n := 137) (cb := 54) (sb := 2563) (ci := 2) tyX2 zfin_2 rfl (by decide) (by decide +kernel) tyX2_ok hdf2 q_39 q_41 q_3 d0_init_38 ?_
  refine g_dup hK d0_init_41 rfl ?_
  refine g_aload_n hK 1 rfl rfl d0_init_42 ?_
  refine g_aload_n hK 2 rfl rfl d0_init_43 ?_
  refine gn_call hK hKi (b := 138) (rest := [.ref (Z.2.2.1 + 138), .int (zi 3), .ref (Z.2.2.1 + 102)]) (As := [.ref (Z.2.2.1 + 103), .ref (Z.2.2.1 + 104)]) (nA := 2) (cb := 44) (sb := 2064) (rm := rmI2) (q := (138, _)) (ci_2 K.2.1 hK.2.2.2.2.2.2.2.2.1 Z (by decide +kernel)) q_42 q_43 q_3 q_44 rfl rfl (by decide +kernel) (by decide) (Nat.le_of_ble_eq_true rfl) (Nat.le_of_ble_eq_true rfl) (Nat.le_of_ble_eq_true rfl) rfl d0_init_44 ?_
  refine gn_aast hK (t := 102) (i := 3) (r := 138) (kd := 105) (tq := 5) (ci := 2) (Or.inr ⟨rfl, rfl, rfl⟩) (by decide +kernel) (Nat.le_of_ble_eq_true rfl) (by decide +kernel) (by decide +kernel) (Nat.le_of_ble_eq_true rfl) d0_init_47 ?_
  refine gn_iinc hK (x := 3) (y := 4) rfl zc4 (lv2 := [(0, .ref (Z.2.2.1 + 101)), (1, .ref (Z.2.2.1 + 103)), (2, .ref (Z.2.2.1 + 104)), (3, .int (zi 4))]) 3 rfl [1, 2, 3, 0] rfl (by decide) d0_init_48 ?_
  refine g_goto hK (tgt := 27) (by decide) d0_init_51 ?_
  refine g_iload_n hK 3 rfl rfl d0_init_27 ?_
  refine g_bipush hK d0_init_28 zkb8 ?_
  refine gn_ge0 hK (x := 4) (y := 8) (tgt := 54) zc4 zc8 (by decide) (by decide) d0_init_30 ?_
  refine g_aload_n hK 0 rfl rfl d0_init_33 ?_
  refine gn_getR hK (t := 101) (j := 0) (r := 102) zfin_0 (fa_0_0 (by decide +kernel)) (Nat.le_of_ble_eq_true rfl) ((zR_nk (by decide)).trans ((mk2_lt (by decide) (by decide)).trans ((zR_nk (by decide)).trans ((mk2_lt (by decide) (by decide)).trans ((zR_nk (by decide)).trans ((mk2_lt (by decide) (by decide)).trans ((zR_nk (by decide)).trans ((mk2_lt (by decide) (by decide)).trans (zR_eq rfl rfl))))))))) (by decide) q_128 d0_init_34 ?_
  refine g_iload_n hK 3 rfl rfl d0_init_37 ?_
  refine gn_new hK (n := 148) (cb := 43) (sb := 2047) (ci := 2) tyX2 zfin_2 rfl (by decide) (by decide +kernel) tyX2_ok hdf2 q_39 q_41 q_3 d0_init_38 ?_
  refine g_dup hK d0_init_41 rfl ?_
  refine g_aload_n hK 1 rfl rfl d0_init_42 ?_
  refine g_aload_n hK 2 rfl rfl d0_init_43 ?_
  refine gn_call hK hKi (b := 149) (rest := [.ref (Z.2.2.1 + 149), .int (zi 4), .ref (Z.2.2.1 + 102)]) (As := [.ref (Z.2.2.1 + 103), .ref (Z.2.2.1 + 104)]) (nA := 2) (cb := 33) (sb := 1548) (rm := rmI2) (q := (149, _)) (ci_2 K.2.1 hK.2.2.2.2.2.2.2.2.1 Z (by decide +kernel)) q_42 q_43 q_3 q_44 rfl rfl (by decide +kernel) (by decide) (Nat.le_of_ble_eq_true rfl) (Nat.le_of_ble_eq_true rfl) (Nat.le_of_ble_eq_true rfl) rfl d0_init_44 ?_
  refine gn_aast hK (t := 102) (i := 4) (r := 149) (kd := 105) (tq := 5) (ci := 2) (Or.inr ⟨rfl, rfl, rfl⟩) (by decide +kernel) (Nat.le_of_ble_eq_true rfl) (by decide +kernel) (by decide +kernel) (Nat.le_of_ble_eq_true rfl) d0_init_47 ?_
  refine gn_iinc hK (x := 4) (y := 5) rfl zc5 (lv2 := [(0, .ref (Z.2.2.1 + 101)), (1, .ref (Z.2.2.1 + 103)), (2, .ref (Z.2.2.1 + 104)), (3, .int (zi 5))]) 3 rfl [1, 2, 3, 0] rfl (by decide) d0_init_48 ?_
  refine g_goto hK (tgt := 27) (by decide) d0_init_51 ?_
  refine g_iload_n hK 3 rfl rfl d0_init_27 ?_
  refine g_bipush hK d0_init_28 zkb8 ?_
  refine gn_ge0 hK (x := 5) (y := 8) (tgt := 54) zc5 zc8 (by decide) (by decide) d0_init_30 ?_
  refine g_aload_n hK 0 rfl rfl d0_init_33 ?_
  refine gn_getR hK (t := 101) (j := 0) (r := 102) zfin_0 (fa_0_0 (by decide +kernel)) (Nat.le_of_ble_eq_true rfl) ((zR_nk (by decide)).trans ((mk2_lt (by decide) (by decide)).trans ((zR_nk (by decide)).trans ((mk2_lt (by decide) (by decide)).trans ((zR_nk (by decide)).trans ((mk2_lt (by decide) (by decide)).trans ((zR_nk (by decide)).trans ((mk2_lt (by decide) (by decide)).trans ((zR_nk (by decide)).trans ((mk2_lt (by decide) (by decide)).trans (zR_eq rfl rfl))))))))))) (by decide) q_128 d0_init_34 ?_
  refine g_iload_n hK 3 rfl rfl d0_init_37 ?_
  refine gn_new hK (n := 159) (cb := 32) (sb := 1531) (ci := 2) tyX2 zfin_2 rfl (by decide) (by decide +kernel) tyX2_ok hdf2 q_39 q_41 q_3 d0_init_38 ?_
  refine g_dup hK d0_init_41 rfl ?_
  refine g_aload_n hK 1 rfl rfl d0_init_42 ?_
  refine g_aload_n hK 2 rfl rfl d0_init_43 ?_
  refine gn_call hK hKi (b := 160) (rest := [.ref (Z.2.2.1 + 160), .int (zi 5), .ref (Z.2.2.1 + 102)]) (As := [.ref (Z.2.2.1 + 103), .ref (Z.2.2.1 + 104)]) (nA := 2) (cb := 22) (sb := 1032) (rm := rmI2) (q := (160, _)) (ci_2 K.2.1 hK.2.2.2.2.2.2.2.2.1 Z (by decide +kernel)) q_42 q_43 q_3 q_44 rfl rfl (by decide +kernel) (by decide) (Nat.le_of_ble_eq_true rfl) (Nat.le_of_ble_eq_true rfl) (Nat.le_of_ble_eq_true rfl) rfl d0_init_44 ?_
  refine gn_aast hK (t := 102) (i := 5) (r := 160) (kd := 105) (tq := 5) (ci := 2) (Or.inr ⟨rfl, rfl, rfl⟩) (by decide +kernel) (Nat.le_of_ble_eq_true rfl) (by decide +kernel) (by decide +kernel) (Nat.le_of_ble_eq_true rfl) d0_init_47 ?_
  refine gn_iinc hK (x := 5) (y := 6) rfl zc6 (lv2 := [(0, .ref (Z.2.2.1 + 101)), (1, .ref (Z.2.2.1 + 103)), (2, .ref (Z.2.2.1 + 104)), (3, .int (zi 6))]) 3 rfl [1, 2, 3, 0] rfl (by decide) d0_init_48 ?_
  refine g_goto hK (tgt := 27) (by decide) d0_init_51 ?_
  refine g_iload_n hK 3 rfl rfl d0_init_27 ?_
  refine g_bipush hK d0_init_28 zkb8 ?_
  refine gn_ge0 hK (x := 6) (y := 8) (tgt := 54) zc6 zc8 (by decide) (by decide) d0_init_30 ?_
  refine g_aload_n hK 0 rfl rfl d0_init_33 ?_
  refine gn_getR hK (t := 101) (j := 0) (r := 102) zfin_0 (fa_0_0 (by decide +kernel)) (Nat.le_of_ble_eq_true rfl) ((zR_nk (by decide)).trans ((mk2_lt (by decide) (by decide)).trans ((zR_nk (by decide)).trans ((mk2_lt (by decide) (by decide)).trans ((zR_nk (by decide)).trans ((mk2_lt (by decide) (by decide)).trans ((zR_nk (by decide)).trans ((mk2_lt (by decide) (by decide)).trans ((zR_nk (by decide)).trans ((mk2_lt (by decide) (by decide)).trans ((zR_nk (by decide)).trans ((mk2_lt (by decide) (by decide)).trans (zR_eq rfl rfl))))))))))))) (by decide) q_128 d0_init_34 ?_
  refine g_iload_n hK 3 rfl rfl d0_init_37 ?_
  refine gn_new hK (n := 170) (cb := 21) (sb := 1015) (ci := 2) tyX2 zfin_2 rfl (by decide) (by decide +kernel) tyX2_ok hdf2 q_39 q_41 q_3 d0_init_38 ?_
  refine g_dup hK d0_init_41 rfl ?_
  refine g_aload_n hK 1 rfl rfl d0_init_42 ?_
  refine g_aload_n hK 2 rfl rfl d0_init_43 ?_
  refine gn_call hK hKi (b := 171) (rest := [.ref (Z.2.2.1 + 171), .int (zi 6), .ref (Z.2.2.1 + 102)]) (As := [.ref (Z.2.2.1 + 103), .ref (Z.2.2.1 + 104)]) (nA := 2) (cb := 11) (sb := 516) (rm := rmI2) (q := (171, _)) (ci_2 K.2.1 hK.2.2.2.2.2.2.2.2.1 Z (by decide +kernel)) q_42 q_43 q_3 q_44 rfl rfl (by decide +kernel) (by decide) (Nat.le_of_ble_eq_true rfl) (Nat.le_of_ble_eq_true rfl) (Nat.le_of_ble_eq_true rfl) rfl d0_init_44 ?_
  refine gn_aast hK (t := 102) (i := 6) (r := 171) (kd := 105) (tq := 5) (ci := 2) (Or.inr ⟨rfl, rfl, rfl⟩) (by decide +kernel) (Nat.le_of_ble_eq_true rfl) (by decide +kernel) (by decide +kernel) (Nat.le_of_ble_eq_true rfl) d0_init_47 ?_
  refine gn_iinc hK (x := 6) (y := 7) rfl zc7 (lv2 := [(0, .ref (Z.2.2.1 + 101)), (1, .ref (Z.2.2.1 + 103)), (2, .ref (Z.2.2.1 + 104)), (3, .int (zi 7))]) 3 rfl [1, 2, 3, 0] rfl (by decide) d0_init_48 ?_
  refine g_goto hK (tgt := 27) (by decide) d0_init_51 ?_
  refine g_iload_n hK 3 rfl rfl d0_init_27 ?_
  refine g_bipush hK d0_init_28 zkb8 ?_
  refine gn_ge0 hK (x := 7) (y := 8) (tgt := 54) zc7 zc8 (by decide) (by decide) d0_init_30 ?_
  refine g_aload_n hK 0 rfl rfl d0_init_33 ?_
  refine gn_getR hK (t := 101) (j := 0) (r := 102) zfin_0 (fa_0_0 (by decide +kernel)) (Nat.le_of_ble_eq_true rfl) ((zR_nk (by decide)).trans ((mk2_lt (by decide) (by decide)).trans ((zR_nk (by decide)).trans ((mk2_lt (by decide) (by decide)).trans ((zR_nk (by decide)).trans ((mk2_lt (by decide) (by decide)).trans ((zR_nk (by decide)).trans ((mk2_lt (by decide) (by decide)).trans ((zR_nk (by decide)).trans ((mk2_lt (by decide) (by decide)).trans ((zR_nk (by decide)).trans ((mk2_lt (by decide) (by decide)).trans ((zR_nk (by decide)).trans ((mk2_lt (by decide) (by decide)).trans (zR_eq rfl rfl))))))))))))))) (by decide) q_128 d0_init_34 ?_
  refine g_iload_n hK 3 rfl rfl d0_init_37 ?_
  refine gn_new hK (n := 181) (cb := 10) (sb := 499) (ci := 2) tyX2 zfin_2 rfl (by decide) (by decide +kernel) tyX2_ok hdf2 q_39 q_41 q_3 d0_init_38 ?_
  refine g_dup hK d0_init_41 rfl ?_
  refine g_aload_n hK 1 rfl rfl d0_init_42 ?_
  refine g_aload_n hK 2 rfl rfl d0_init_43 ?_
  refine gn_call hK hKi (b := 182) (rest := [.ref (Z.2.2.1 + 182), .int (zi 7), .ref (Z.2.2.1 + 102)]) (As := [.ref (Z.2.2.1 + 103), .ref (Z.2.2.1 + 104)]) (nA := 2) (cb := 0) (sb := 0) (rm := rmI2) (q := (182, _)) (ci_2 K.2.1 hK.2.2.2.2.2.2.2.2.1 Z (by decide +kernel)) q_42 q_43 q_3 q_44 rfl rfl (by decide +kernel) (by decide) (Nat.le_of_ble_eq_true rfl) (Nat.le_of_ble_eq_true rfl) (Nat.le_of_ble_eq_true rfl) rfl d0_init_44 ?_
  refine gn_aast hK (t := 102) (i := 7) (r := 182) (kd := 105) (tq := 5) (ci := 2) (Or.inr ⟨rfl, rfl, rfl⟩) (by decide +kernel) (Nat.le_of_ble_eq_true rfl) (by decide +kernel) (by decide +kernel) (Nat.le_of_ble_eq_true rfl) d0_init_47 ?_
  refine gn_iinc hK (x := 7) (y := 8) rfl zc8 (lv2 := [(0, .ref (Z.2.2.1 + 101)), (1, .ref (Z.2.2.1 + 103)), (2, .ref (Z.2.2.1 + 104)), (3, .int (zi 8))]) 3 rfl [1, 2, 3, 0] rfl (by decide) d0_init_48 ?_
  refine g_goto hK (tgt := 27) (by decide) d0_init_51 ?_
  refine g_iload_n hK 3 rfl rfl d0_init_27 ?_
  refine g_bipush hK d0_init_28 zkb8 ?_
  refine gn_ge1 hK (x := 8) (y := 8) (tgt := 54) zc8 zc8 (by decide) (by decide) d0_init_30 ?_
  exact gn_ret hK d0_init_54
theorem mk0_101_lt {k j : Nat} {μ : zM} (hk : k < 101) : zR (mk0_101 μ) k j = zR μ k j := by
  unfold mk0_101
  rw [zR_nk (by omega), mk2_lt (by decide) (by omega), zR_nk (by omega), mk2_lt (by decide) (by omega), zR_nk (by omega), mk2_lt (by decide) (by omega), zR_nk (by omega), mk2_lt (by decide) (by omega), zR_nk (by omega), mk2_lt (by decide) (by omega), zR_nk (by omega), mk2_lt (by decide) (by omega), zR_nk (by omega), mk2_lt (by decide) (by omega), zR_nk (by omega), mk2_lt (by decide) (by omega), zR_nk (by omega)]
theorem mk0_101_a (μ : zM) : zR (mk0_101 μ) 101 0 = 102 := by
  unfold mk0_101
  rw [zR_nk (by decide), mk2_lt (by decide) (by decide), zR_nk (by decide), mk2_lt (by decide) (by decide), zR_nk (by decide), mk2_lt (by decide) (by decide), zR_nk (by decide), mk2_lt (by decide) (by decide), zR_nk (by decide), mk2_lt (by decide) (by decide), zR_nk (by decide), mk2_lt (by decide) (by decide), zR_nk (by decide), mk2_lt (by decide) (by decide), zR_nk (by decide), mk2_lt (by decide) (by decide), zR_eq rfl rfl]
theorem mk0_101_b (μ : zM) : zR (mk0_101 μ) 102 0 = 105 := by
  unfold mk0_101
  rw [zR_ni (by decide), mk2_lt (by decide) (by decide), zR_ni (by decide), mk2_lt (by decide) (by decide), zR_ni (by decide), mk2_lt (by decide) (by decide), zR_ni (by decide), mk2_lt (by decide) (by decide), zR_ni (by decide), mk2_lt (by decide) (by decide), zR_ni (by decide), mk2_lt (by decide) (by decide), zR_ni (by decide), mk2_lt (by decide) (by decide), zR_eq rfl rfl]
def rmI1 : Room := { frames := 3, cells := 93, slots := 5539, locals := 57 }
def mk1 (μ : zM) : zM := (zsR (zsR (mk0_101 (zsR μ 99 0 100)) 99 3 101) 99 4 105)
set_option maxRecDepth 20000 in
theorem ci_1 (l : Launch) (hst : l.stackTraces = false) (Z : zZ) {μ : zM} : zCtI l Z y1_init (zws (.code y1_init b1_init 1 none)) rmI1 [.ref (Z.2.2.1 + 99)] (99, μ) (192, mk1 μ) := by
  refine zCtI.of (by decide) hst (Nat.le_of_ble_eq_true rfl) (fun K hK hKi hname hl => ?_)
  have hin2 : K.2.2.2.2.2.2.2.2.1.name = "<init>" := hname.trans rfl
  show zG K Z (zΩn Z) (zFi K Z) 93 5539 0 [(0, .ref (Z.2.2.1 + 99))] [] (99, μ) _
  refine g_aload_n hK 0 rfl rfl d1_init_0 ?_
  refine gn_oi hK q_148 q_29 q_30 (Nat.le_of_ble_eq_true rfl) (Nat.le_of_ble_eq_true rfl) d1_init_1 ?_
  refine g_aload_n hK 0 rfl rfl d1_init_4 ?_
  refine g_iconst hK d1_init_5 zki0 ?_
  refine gn_newI hK (n := 99) (cb := 92) (sb := 5539) (len := 0) rfl (by decide) (by decide +kernel) (by decide +kernel) q_126 d1_init_6 ?_
  refine gn_putM hK (t := 99) (r := 100) (j := 0) zfin_1 (fa_1_0 (by decide +kernel)) (Nat.le_of_ble_eq_true rfl) (by decide) q_151 (fun _ => rfl) (fun _ => rfl) rfl (tyX1_ok 0 (by decide)) tyX1 tyX1_ok nmX1 d1_init_8 ?_
  refine g_aload_n hK 0 rfl rfl d1_init_11 ?_
  refine gn_new hK (n := 100) (cb := 91) (sb := 5536) (ci := 0) tyX0 zfin_0 rfl (by decide) (by decide +kernel) tyX0_ok hdf0 q_149 q_34 q_2 d1_init_12 ?_
  refine g_dup hK d1_init_15 rfl ?_
  refine gn_call hK hKi (b := 101) (rest := [.ref (Z.2.2.1 + 101), .ref (Z.2.2.1 + 99)]) (As := []) (nA := 0) (cb := 0) (sb := 0) (rm := rmI0) (q := (101, _)) (ci_0_101 K.2.1 hK.2.2.2.2.2.2.2.2.1 Z) q_150 q_36 q_2 q_37 rfl rfl (by decide +kernel) (by decide) (Nat.le_of_ble_eq_true rfl) (Nat.le_of_ble_eq_true rfl) (Nat.le_of_ble_eq_true rfl) rfl d1_init_16 ?_
  refine gn_putM hK (t := 99) (r := 101) (j := 3) zfin_1 (fa_1_3 (by decide +kernel)) (Nat.le_of_ble_eq_true rfl) (by decide) q_154 (fun _ => rfl) (fun _ => rfl) rfl (tyX1_ok 3 (by decide)) tyX1 tyX1_ok nmX1 d1_init_19 ?_
  refine g_aload_n hK 0 rfl rfl d1_init_22 ?_
  refine g_aload_n hK 0 rfl rfl d1_init_23 ?_
  refine gn_getR hK (t := 99) (j := 3) (r := 101) zfin_1 (fa_1_3 (by decide +kernel)) (Nat.le_of_ble_eq_true rfl) (zR_eq rfl rfl) (by decide) q_154 d1_init_24 ?_
  refine gn_getR hK (t := 101) (j := 0) (r := 102) zfin_0 (fa_0_0 (by decide +kernel)) (Nat.le_of_ble_eq_true rfl) ((zR_nk (by decide)).trans (mk0_101_a _)) (by decide) q_129 d1_init_27 ?_
  refine g_iconst hK d1_init_30 zki0 ?_
  refine gn_aald5 hK (t := 102) (i := 0) (r := 105) (by decide +kernel) (Nat.le_of_ble_eq_true rfl) (by decide +kernel) ((zR_nk (by decide)).trans (mk0_101_b _)) (by decide) d1_init_31 ?_
  refine gn_putM hK (t := 99) (r := 105) (j := 4) zfin_1 (fa_1_4 (by decide +kernel)) (Nat.le_of_ble_eq_true rfl) (by decide) q_155 (fun _ => rfl) (fun _ => rfl) rfl (tyX1_ok 4 (by decide)) tyX1 tyX1_ok nmX1 d1_init_32 ?_
  exact gn_ret hK d1_init_35
theorem mk1_lt {k j : Nat} {μ : zM} (hk : k < 99) : zR (mk1 μ) k j = zR μ k j := by
  unfold mk1
  rw [zR_nk (by omega), zR_nk (by omega), mk0_101_lt (by omega), zR_nk (by omega)]
def rmI4 : Room := { frames := 2, cells := 21, slots := 5026, locals := 34 }
def mk4 (μ : zM) : zM := (zsR (mk2 209 211 210 211 (zsR (zsR (zsR (zsR (zsR (zsR (zsR (zsR μ 200 2 201) 200 4 202) 200 5 203) 200 6 204) 200 7 205) 200 9 206) 200 11 207) 200 12 208)) 200 0 209)
set_option maxRecDepth 20000 in
theorem ci_4 (l : Launch) (hst : l.stackTraces = false) (Z : zZ) {μ : zM} : zCtI l Z y4_init (zws (.code y4_init b4_init 1 none)) rmI4 [.ref (Z.2.2.1 + 200)] (200, μ) (221, mk4 μ) := by
  refine zCtI.of (by decide) hst (Nat.le_of_ble_eq_true rfl) (fun K hK hKi hname hl => ?_)
  have hin2 : K.2.2.2.2.2.2.2.2.1.name = "<init>" := hname.trans rfl
  show zG K Z (zΩn Z) (zFi K Z) 21 5026 0 [(0, .ref (Z.2.2.1 + 200))] [] (200, μ) _
  refine g_aload_n hK 0 rfl rfl d4_init_0 ?_
  refine gn_oi hK q_225 q_29 q_30 (Nat.le_of_ble_eq_true rfl) (Nat.le_of_ble_eq_true rfl) d4_init_1 ?_
  refine g_aload_n hK 0 rfl rfl d4_init_4 ?_
  refine g_bipush hK d4_init_5 zkb10 ?_
  refine gn_newI hK (n := 200) (cb := 20) (sb := 5016) (len := 10) rfl (by decide) (by decide +kernel) (by decide +kernel) q_126 d4_init_7 ?_
  refine gn_putF hK hin2 (t := 200) (r := 201) (j := 2) zfin_4 (fa_4_2 (by decide +kernel)) (Nat.le_of_ble_eq_true rfl) (by decide) q_232 (fun _ => rfl) (fun _ => rfl) rfl rfl (tyX4_ok 2 (by decide)) tyX4 tyX4_ok nmX4 d4_init_9 ?_
  refine g_aload_n hK 0 rfl rfl d4_init_12 ?_
  refine g_bipush hK d4_init_13 zkb60 ?_
  refine gn_newZ hK (n := 201) (cb := 19) (sb := 4956) (len := 60) rfl (by decide) (by decide +kernel) (by decide +kernel) q_127 d4_init_15 ?_
  refine gn_putF hK hin2 (t := 200) (r := 202) (j := 4) zfin_4 (fa_4_4 (by decide +kernel)) (Nat.le_of_ble_eq_true rfl) (by decide) q_235 (fun _ => rfl) (fun _ => rfl) rfl rfl (tyX4_ok 4 (by decide)) tyX4 tyX4_ok nmX4 d4_init_17 ?_
  refine g_aload_n hK 0 rfl rfl d4_init_20 ?_
  refine g_bipush hK d4_init_21 zkb10 ?_
  refine gn_newI hK (n := 202) (cb := 18) (sb := 4946) (len := 10) rfl (by decide) (by decide +kernel) (by decide +kernel) q_126 d4_init_23 ?_
  refine gn_putF hK hin2 (t := 200) (r := 203) (j := 5) zfin_4 (fa_4_5 (by decide +kernel)) (Nat.le_of_ble_eq_true rfl) (by decide) q_237 (fun _ => rfl) (fun _ => rfl) rfl rfl (tyX4_ok 5 (by decide)) tyX4 tyX4_ok nmX4 d4_init_25 ?_
  refine g_aload_n hK 0 rfl rfl d4_init_28 ?_
  refine g_bipush hK d4_init_29 zkb10 ?_
  refine gn_newI hK (n := 203) (cb := 17) (sb := 4936) (len := 10) rfl (by decide) (by decide +kernel) (by decide +kernel) q_126 d4_init_31 ?_
  refine gn_putF hK hin2 (t := 200) (r := 204) (j := 6) zfin_4 (fa_4_6 (by decide +kernel)) (Nat.le_of_ble_eq_true rfl) (by decide) q_239 (fun _ => rfl) (fun _ => rfl) rfl rfl (tyX4_ok 6 (by decide)) tyX4 tyX4_ok nmX4 d4_init_33 ?_
  refine g_aload_n hK 0 rfl rfl d4_init_36 ?_
  refine g_bipush hK d4_init_37 zkb10 ?_
  refine gn_newL hK (n := 204) (cb := 16) (sb := 4926) (len := 10) rfl (by decide) (by decide +kernel) (by decide +kernel) q_280 d4_init_39 ?_
  refine gn_putF hK hin2 (t := 200) (r := 205) (j := 7) zfin_4 (fa_4_7 (by decide +kernel)) (Nat.le_of_ble_eq_true rfl) (by decide) q_241 (fun _ => rfl) (fun _ => rfl) rfl rfl (tyX4_ok 7 (by decide)) tyX4 tyX4_ok nmX4 d4_init_41 ?_
  refine g_aload_n hK 0 rfl rfl d4_init_44 ?_
  refine g_bipush hK d4_init_45 zkb10 ?_
  refine gn_newI hK (n := 205) (cb := 15) (sb := 4916) (len := 10) rfl (by decide) (by decide +kernel) (by decide +kernel) q_126 d4_init_47 ?_
  refine gn_putF hK hin2 (t := 200) (r := 206) (j := 9) zfin_4 (fa_4_9 (by decide +kernel)) (Nat.le_of_ble_eq_true rfl) (by decide) q_245 (fun _ => rfl) (fun _ => rfl) rfl rfl (tyX4_ok 9 (by decide)) tyX4 tyX4_ok nmX4 d4_init_49 ?_
  refine g_aload_n hK 0 rfl rfl d4_init_52 ?_
  refine g_sipush hK d4_init_53 zks4000 ?_
  refine gn_newI hK (n := 206) (cb := 14) (sb := 916) (len := 4000) rfl (by decide) (by decide +kernel) (by decide +kernel) q_126 d4_init_56 ?_
  refine gn_putF hK hin2 (t := 200) (r := 207) (j := 11) zfin_4 (fa_4_11 (by decide +kernel)) (Nat.le_of_ble_eq_true rfl) (by decide) q_249 (fun _ => rfl) (fun _ => rfl) rfl rfl (tyX4_ok 11 (by decide)) tyX4 tyX4_ok nmX4 d4_init_58 ?_
  refine g_aload_n hK 0 rfl rfl d4_init_61 ?_
  refine g_sipush hK d4_init_62 zks400 ?_
  refine gn_newI hK (n := 207) (cb := 13) (sb := 516) (len := 400) rfl (by decide) (by decide +kernel) (by decide +kernel) q_126 d4_init_65 ?_
  refine gn_putF hK hin2 (t := 200) (r := 208) (j := 12) zfin_4 (fa_4_12 (by decide +kernel)) (Nat.le_of_ble_eq_true rfl) (by decide) q_251 (fun _ => rfl) (fun _ => rfl) rfl rfl (tyX4_ok 12 (by decide)) tyX4 tyX4_ok nmX4 d4_init_67 ?_
  refine g_aload_n hK 0 rfl rfl d4_init_70 ?_
  refine gn_new hK (n := 208) (cb := 12) (sb := 499) (ci := 2) tyX2 zfin_2 rfl (by decide) (by decide +kernel) tyX2_ok hdf2 q_226 q_41 q_3 d4_init_71 ?_
  refine g_dup hK d4_init_74 rfl ?_
  refine g_iconst hK d4_init_75 zki0 ?_
  refine gn_newI hK (n := 209) (cb := 11) (sb := 499) (len := 0) rfl (by decide) (by decide +kernel) (by decide +kernel) q_126 d4_init_76 ?_
  refine g_iconst hK d4_init_78 zki0 ?_
  refine gn_newI hK (n := 210) (cb := 10) (sb := 499) (len := 0) rfl (by decide) (by decide +kernel) (by decide +kernel) q_126 d4_init_79 ?_
  refine gn_call hK hKi (b := 209) (rest := [.ref (Z.2.2.1 + 209), .ref (Z.2.2.1 + 200)]) (As := [.ref (Z.2.2.1 + 210), .ref (Z.2.2.1 + 211)]) (nA := 2) (cb := 0) (sb := 0) (rm := rmI2) (q := (211, _)) (ci_2 K.2.1 hK.2.2.2.2.2.2.2.2.1 Z (by decide +kernel)) q_227 q_43 q_3 q_44 rfl rfl (by decide +kernel) (by decide) (Nat.le_of_ble_eq_true rfl) (Nat.le_of_ble_eq_true rfl) (Nat.le_of_ble_eq_true rfl) rfl d4_init_81 ?_
  refine gn_putM hK (t := 200) (r := 209) (j := 0) zfin_4 (fa_4_0 (by decide +kernel)) (Nat.le_of_ble_eq_true rfl) (by decide) q_228 (fun _ => rfl) (fun _ => rfl) rfl (tyX4_ok 0 (by decide)) tyX4 tyX4_ok nmX4 d4_init_84 ?_
  exact gn_ret hK d4_init_87
theorem mk4_lt {k j : Nat} {μ : zM} (hk : k < 200) : zR (mk4 μ) k j = zR μ k j := by
  unfold mk4
  rw [zR_nk (by omega), mk2_lt (by decide) (by omega), zR_nk (by omega), zR_nk (by omega), zR_nk (by omega), zR_nk (by omega), zR_nk (by omega), zR_nk (by omega), zR_nk (by omega), zR_nk (by omega)]
def rmI5 : Room := { frames := 4, cells := 290, slots := 41718, locals := 77 }
def mk5 (μ : zM) : zM := (zsI (zsR (mk3 285 285 (zsR (mk3 278 278 (zsR (mk3 271 271 (zsR (mk3 264 264 (zsR (mk3 257 257 (zsR (mk3 250 250 (zsR (mk3 243 243 (zsR (mk3 236 236 (zsR (mk3 229 229 (zsR (mk3 222 222 (zsR (mk4 (zsR (mk3 193 193 (zsR (mk1 (zsR (mk0_7 (zsR (zsR (zsR (zsR (zsR μ 1 0 2) 1 6 3) 1 8 4) 1 11 5) 1 12 6)) 1 2 7)) 1 3 99)) 1 7 193)) 1 13 200)) 4 0 222)) 4 1 229)) 4 2 236)) 4 3 243)) 4 4 250)) 4 5 257)) 4 6 264)) 4 7 271)) 5 0 278)) 5 1 285) 1 5 (-1))
set_option maxRecDepth 20000 in
theorem ci_5 (l : Launch) (hst : l.stackTraces = false) (Z : zZ) {μ : zM} : zCtI l Z y5_init (zws (.code y5_init b5_init 2 none)) rmI5 [.ref (Z.2.2.1 + 1)] (1, μ) (291, mk5 μ) := by
  refine zCtI.of (by decide) hst (Nat.le_of_ble_eq_true rfl) (fun K hK hKi hname hl => ?_)
  have hin2 : K.2.2.2.2.2.2.2.2.1.name = "<init>" := hname.trans rfl
  show zG K Z (zΩn Z) (zFi K Z) 290 41718 0 [(0, .ref (Z.2.2.1 + 1))] [] (1, μ) _
  refine g_aload_n hK 0 rfl rfl d5_init_0 ?_
  refine gn_oi hK q_28 q_29 q_30 (Nat.le_of_ble_eq_true rfl) (Nat.le_of_ble_eq_true rfl) d5_init_1 ?_
  refine g_aload_n hK 0 rfl rfl d5_init_4 ?_
  refine g_sipush hK d5_init_5 zks700 ?_
  refine gn_newI hK (n := 1) (cb := 289) (sb := 41018) (len := 700) rfl (by decide) (by decide +kernel) (by decide +kernel) q_126 d5_init_8 ?_
  refine gn_putF hK hin2 (t := 1) (r := 2) (j := 0) zfin_5 (fa_5_0 (by decide +kernel)) (Nat.le_of_ble_eq_true rfl) (by decide) q_281 (fun _ => rfl) (fun _ => rfl) rfl rfl (tyX5_ok 0 (by decide)) tyX5 tyX5_ok nmX5 d5_init_10 ?_
  refine g_aload_n hK 0 rfl rfl d5_init_13 ?_
  refine g_bipush hK d5_init_14 zkb10 ?_
  refine gn_newI hK (n := 2) (cb := 288) (sb := 41008) (len := 10) rfl (by decide) (by decide +kernel) (by decide +kernel) q_126 d5_init_16 ?_
  refine gn_putF hK hin2 (t := 1) (r := 3) (j := 6) zfin_5 (fa_5_6 (by decide +kernel)) (Nat.le_of_ble_eq_true rfl) (by decide) q_287 (fun _ => rfl) (fun _ => rfl) rfl rfl (tyX5_ok 6 (by decide)) tyX5 tyX5_ok nmX5 d5_init_18 ?_
  refine g_aload_n hK 0 rfl rfl d5_init_21 ?_
  refine g_bipush hK d5_init_22 zkb8 ?_
  refine gn_newQ hK (n := 3) (cb := 287) (sb := 41000) (len := 8) (Or.inl ⟨rfl, rfl, rfl⟩) hKi.2.1 rfl (by decide) (by decide +kernel) (by decide +kernel) q_31 d5_init_24 ?_
  refine gn_putF hK hin2 (t := 1) (r := 4) (j := 8) zfin_5 (fa_5_8 (by decide +kernel)) (Nat.le_of_ble_eq_true rfl) (by decide) q_289 (fun _ => rfl) (fun _ => rfl) rfl rfl (tyX5_ok 8 (by decide)) tyX5 tyX5_ok nmX5 d5_init_27 ?_
  refine g_aload_n hK 0 rfl rfl d5_init_30 ?_
  refine g_iconst hK d5_init_31 zki2 ?_
  refine gn_newQ hK (n := 4) (cb := 286) (sb := 40998) (len := 2) (Or.inl ⟨rfl, rfl, rfl⟩) hKi.2.1 rfl (by decide) (by decide +kernel) (by decide +kernel) q_31 d5_init_32 ?_
  refine gn_putF hK hin2 (t := 1) (r := 5) (j := 11) zfin_5 (fa_5_11 (by decide +kernel)) (Nat.le_of_ble_eq_true rfl) (by decide) q_292 (fun _ => rfl) (fun _ => rfl) rfl rfl (tyX5_ok 11 (by decide)) tyX5 tyX5_ok nmX5 d5_init_35 ?_
  refine g_aload_n hK 0 rfl rfl d5_init_38 ?_
  refine g_iconst hK d5_init_39 zki2 ?_
  refine gn_newZ hK (n := 5) (cb := 285) (sb := 40996) (len := 2) rfl (by decide) (by decide +kernel) (by decide +kernel) q_127 d5_init_40 ?_
  refine gn_putF hK hin2 (t := 1) (r := 6) (j := 12) zfin_5 (fa_5_12 (by decide +kernel)) (Nat.le_of_ble_eq_true rfl) (by decide) q_293 (fun _ => rfl) (fun _ => rfl) rfl rfl (tyX5_ok 12 (by decide)) tyX5 tyX5_ok nmX5 d5_init_42 ?_
  refine g_aload_n hK 0 rfl rfl d5_init_45 ?_
  refine gn_new hK (n := 6) (cb := 284) (sb := 40993) (ci := 0) tyX0 zfin_0 rfl (by decide) (by decide +kernel) tyX0_ok hdf0 q_33 q_34 q_2 d5_init_46 ?_
  refine g_dup hK d5_init_49 rfl ?_
  refine gn_call hK hKi (b := 7) (rest := [.ref (Z.2.2.1 + 7), .ref (Z.2.2.1 + 1)]) (As := []) (nA := 0) (cb := 193) (sb := 35457) (rm := rmI0) (q := (7, _)) (ci_0_7 K.2.1 hK.2.2.2.2.2.2.2.2.1 Z) q_35 q_36 q_2 q_37 rfl rfl (by decide +kernel) (by decide) (Nat.le_of_ble_eq_true rfl) (Nat.le_of_ble_eq_true rfl) (Nat.le_of_ble_eq_true rfl) rfl d5_init_50 ?_
  refine gn_putM hK (t := 1) (r := 7) (j := 2) zfin_5 (fa_5_2 (by decide +kernel)) (Nat.le_of_ble_eq_true rfl) (by decide) q_283 (fun _ => rfl) (fun _ => rfl) rfl (tyX5_ok 2 (by decide)) tyX5 tyX5_ok nmX5 d5_init_53 ?_
  refine g_aload_n hK 0 rfl rfl d5_init_56 ?_
  refine gn_new hK (n := 98) (cb := 192) (sb := 35449) (ci := 1) tyX1 zfin_1 rfl (by decide) (by decide +kernel) tyX1_ok hdf1 q_143 q_144 q_4 d5_init_57 ?_
  refine g_dup hK d5_init_60 rfl ?_
  refine gn_call hK hKi (b := 99) (rest := [.ref (Z.2.2.1 + 99), .ref (Z.2.2.1 + 1)]) (As := []) (nA := 0) (cb := 99) (sb := 29910) (rm := rmI1) (q := (99, _)) (ci_1 K.2.1 hK.2.2.2.2.2.2.2.2.1 Z) q_145 q_146 q_4 q_147 rfl rfl (by decide +kernel) (by decide) (Nat.le_of_ble_eq_true rfl) (Nat.le_of_ble_eq_true rfl) (Nat.le_of_ble_eq_true rfl) rfl d5_init_61 ?_
  refine gn_putF hK hin2 (t := 1) (r := 99) (j := 3) zfin_5 (fa_5_3 (by decide +kernel)) (Nat.le_of_ble_eq_true rfl) (by decide) q_284 (fun _ => rfl) (fun _ => rfl) rfl rfl (tyX5_ok 3 (by decide)) tyX5 tyX5_ok nmX5 d5_init_64 ?_
  refine g_aload_n hK 0 rfl rfl d5_init_67 ?_
  refine gn_new hK (n := 192) (cb := 98) (sb := 29901) (ci := 3) tyX3 zfin_3 rfl (by decide) (by decide +kernel) tyX3_ok hdf3 q_31 q_178 q_5 d5_init_68 ?_
  refine g_dup hK d5_init_71 rfl ?_
  refine gn_callN hK hKi (b := 193) (rest := [.ref (Z.2.2.1 + 193), .ref (Z.2.2.1 + 1)]) (As := []) (nA := 0) (cb := 92) (sb := 27649) (rm := rmI3) (q := (193, _)) (ci_3 K.2.1 hK.2.2.2.2.2.2.2.2.1 Z (by decide +kernel)) qn_179 q_180 q_5 q_181 rfl rfl (by decide +kernel) (by decide) (Nat.le_of_ble_eq_true rfl) (Nat.le_of_ble_eq_true rfl) (Nat.le_of_ble_eq_true rfl) rfl d5_init_72 ?_
  refine gn_putF hK hin2 (t := 1) (r := 193) (j := 7) zfin_5 (fa_5_7 (by decide +kernel)) (Nat.le_of_ble_eq_true rfl) (by decide) q_288 (fun _ => rfl) (fun _ => rfl) rfl rfl (tyX5_ok 7 (by decide)) tyX5 tyX5_ok nmX5 d5_init_75 ?_
  refine g_aload_n hK 0 rfl rfl d5_init_78 ?_
  refine gn_new hK (n := 199) (cb := 91) (sb := 27636) (ci := 4) tyX4 zfin_4 rfl (by decide) (by decide +kernel) tyX4_ok hdf4 q_220 q_221 q_6 d5_init_79 ?_
  refine g_dup hK d5_init_82 rfl ?_
  refine gn_call hK hKi (b := 200) (rest := [.ref (Z.2.2.1 + 200), .ref (Z.2.2.1 + 1)]) (As := []) (nA := 0) (cb := 70) (sb := 22610) (rm := rmI4) (q := (200, _)) (ci_4 K.2.1 hK.2.2.2.2.2.2.2.2.1 Z) q_222 q_223 q_6 q_224 rfl rfl (by decide +kernel) (by decide) (Nat.le_of_ble_eq_true rfl) (Nat.le_of_ble_eq_true rfl) (Nat.le_of_ble_eq_true rfl) rfl d5_init_83 ?_
  refine gn_putF hK hin2 (t := 1) (r := 200) (j := 13) zfin_5 (fa_5_13 (by decide +kernel)) (Nat.le_of_ble_eq_true rfl) (by decide) q_294 (fun _ => rfl) (fun _ => rfl) rfl rfl (tyX5_ok 13 (by decide)) tyX5 tyX5_ok nmX5 d5_init_86 ?_
  refine g_iconst hK d5_init_89 zki0 ?_
  refine g_istore_n hK (lv2 := [(0, .ref (Z.2.2.1 + 1)), (1, .int (zi 0))]) [1, 0] rfl rfl (by decide) d5_init_90 ?_
  refine g_iload_n hK 1 rfl rfl d5_init_91 ?_
  refine g_bipush hK d5_init_92 zkb8 ?_
  refine gn_ge0 hK (x := 0) (y := 8) (tgt := 116) zc0 zc8 (by decide) (by decide) d5_init_94 ?_
  refine g_aload_n hK 0 rfl rfl d5_init_97 ?_
  refine gn_getR hK (t := 1) (j := 8) (r := 4) zfin_5 (fa_5_8 (by decide +kernel)) (Nat.le_of_ble_eq_true rfl) ((zR_ni (by decide)).trans ((mk4_lt (by decide)).trans ((zR_ni (by decide)).trans ((mk3_lt (by decide) (by decide)).trans ((zR_ni (by decide)).trans ((mk1_lt (by decide)).trans ((zR_ni (by decide)).trans ((mk0_7_lt (by decide)).trans ((zR_ni (by decide)).trans ((zR_ni (by decide)).trans (zR_eq rfl rfl))))))))))) (by decide) q_289 d5_init_98 ?_
  refine g_iload_n hK 1 rfl rfl d5_init_101 ?_
  refine gn_new hK (n := 221) (cb := 69) (sb := 22601) (ci := 3) tyX3 zfin_3 rfl (by decide) (by decide +kernel) tyX3_ok hdf3 q_31 q_178 q_5 d5_init_102 ?_
  refine g_dup hK d5_init_105 rfl ?_
  refine gn_callN hK hKi (b := 222) (rest := [.ref (Z.2.2.1 + 222), .int (zi 0), .ref (Z.2.2.1 + 4)]) (As := []) (nA := 0) (cb := 63) (sb := 20349) (rm := rmI3) (q := (222, _)) (ci_3 K.2.1 hK.2.2.2.2.2.2.2.2.1 Z (by decide +kernel)) qn_179 q_180 q_5 q_181 rfl rfl (by decide +kernel) (by decide) (Nat.le_of_ble_eq_true rfl) (Nat.le_of_ble_eq_true rfl) (Nat.le_of_ble_eq_true rfl) rfl d5_init_106 ?_
  refine gn_aast hK (t := 4) (i := 0) (r := 222) (kd := 104) (tq := 4) (ci := 3) (Or.inl ⟨rfl, rfl, rfl⟩) (by decide +kernel) (Nat.le_of_ble_eq_true rfl) (by decide +kernel) (by decide +kernel) (Nat.le_of_ble_eq_true rfl) d5_init_109 ?_
  refine gn_iinc hK (x := 0) (y := 1) rfl zc1 (lv2 := [(0, .ref (Z.2.2.1 + 1)), (1, .int (zi 1))]) 1 rfl [1, 0] rfl (by decide) d5_init_110 ?_
  refine g_goto hK (tgt := 91) (by decide) d5_init_113 ?_
  refine g_iload_n hK 1 rfl rfl d5_init_91 ?_
  refine g_bipush hK d5_init_92 zkb8 ?_
  refine gn_ge0 hK (x := 1) (y := 8) (tgt := 116) zc1 zc8 (by decide) (by decide) d5_init_94 ?_
  refine g_aload_n hK 0 rfl rfl d5_init_97 ?_
  refine gn_getR hK (t := 1) (j := 8) (r := 4) zfin_5 (fa_5_8 (by decide +kernel)) (Nat.le_of_ble_eq_true rfl) ((zR_nk (by decide)).trans ((mk3_lt (by decide) (by decide)).trans ((zR_ni (by decide)).trans ((mk4_lt (by decide)).trans ((zR_ni (by decide)).trans ((mk3_lt (by decide) (by decide)).trans ((zR_ni (by decide)).trans ((mk1_lt (by decide)).trans ((zR_ni (by decide)).trans ((mk0_7_lt (by decide)).trans ((zR_ni (by decide)).trans ((zR_ni (by decide)).trans (zR_eq rfl rfl))))))))))))) (by decide) q_289 d5_init_98 ?_
  refine g_iload_n hK 1 rfl rfl d5_init_101 ?_
  refine gn_new hK (n := 228) (cb := 62) (sb := 20340) (ci := 3) tyX3 zfin_3 rfl (by decide) (by decide +kernel) tyX3_ok hdf3 q_31 q_178 q_5 d5_init_102 ?_
  refine g_dup hK d5_init_105 rfl ?_
  refine gn_callN hK hKi (b := 229) (rest := [.ref (Z.2.2.1 + 229), .int (zi 1), .ref (Z.2.2.1 + 4)]) (As := []) (nA := 0) (cb := 56) (sb := 18088) (rm := rmI3) (q := (229, _)) (ci_3 K.2.1 hK.2.2.2.2.2.2.2.2.1 Z (by decide +kernel)) qn_179 q_180 q_5 q_181 rfl rfl (by decide +kernel) (by decide) (Nat.le_of_ble_eq_true rfl) (Nat.le_of_ble_eq_true rfl) (Nat.le_of_ble_eq_true rfl) rfl d5_init_106 ?_
  refine gn_aast hK (t := 4) (i := 1) (r := 229) (kd := 104) (tq := 4) (ci := 3) (Or.inl ⟨rfl, rfl, rfl⟩) (by decide +kernel) (Nat.le_of_ble_eq_true rfl) (by decide +kernel) (by decide +kernel) (Nat.le_of_ble_eq_true rfl) d5_init_109 ?_
  refine gn_iinc hK (x := 1) (y := 2) rfl zc2 (lv2 := [(0, .ref (Z.2.2.1 + 1)), (1, .int (zi 2))]) 1 rfl [1, 0] rfl (by decide) d5_init_110 ?_
  refine g_goto hK (tgt := 91) (by decide) d5_init_113 ?_
  refine g_iload_n hK 1 rfl rfl d5_init_91 ?_
  refine g_bipush hK d5_init_92 zkb8 ?_
  refine gn_ge0 hK (x := 2) (y := 8) (tgt := 116) zc2 zc8 (by decide) (by decide) d5_init_94 ?_
  refine g_aload_n hK 0 rfl rfl d5_init_97 ?_
  refine gn_getR hK (t := 1) (j := 8) (r := 4) zfin_5 (fa_5_8 (by decide +kernel)) (Nat.le_of_ble_eq_true rfl) ((zR_nk (by decide)).trans ((mk3_lt (by decide) (by decide)).trans ((zR_nk (by decide)).trans ((mk3_lt (by decide) (by decide)).trans ((zR_ni (by decide)).trans ((mk4_lt (by decide)).trans ((zR_ni (by decide)).trans ((mk3_lt (by decide) (by decide)).trans ((zR_ni (by decide)).trans ((mk1_lt (by decide)).trans ((zR_ni (by decide)).trans ((mk0_7_lt (by decide)).trans ((zR_ni (by decide)).trans ((zR_ni (by decide)).trans (zR_eq rfl rfl))))))))))))))) (by decide) q_289 d5_init_98 ?_
  refine g_iload_n hK 1 rfl rfl d5_init_101 ?_
  refine gn_new hK (n := 235) (cb := 55) (sb := 18079) (ci := 3) tyX3 zfin_3 rfl (by decide) (by decide +kernel) tyX3_ok hdf3 q_31 q_178 q_5 d5_init_102 ?_
  refine g_dup hK d5_init_105 rfl ?_
  refine gn_callN hK hKi (b := 236) (rest := [.ref (Z.2.2.1 + 236), .int (zi 2), .ref (Z.2.2.1 + 4)]) (As := []) (nA := 0) (cb := 49) (sb := 15827) (rm := rmI3) (q := (236, _)) (ci_3 K.2.1 hK.2.2.2.2.2.2.2.2.1 Z (by decide +kernel)) qn_179 q_180 q_5 q_181 rfl rfl (by decide +kernel) (by decide) (Nat.le_of_ble_eq_true rfl) (Nat.le_of_ble_eq_true rfl) (Nat.le_of_ble_eq_true rfl) rfl d5_init_106 ?_
  refine gn_aast hK (t := 4) (i := 2) (r := 236) (kd := 104) (tq := 4) (ci := 3) (Or.inl ⟨rfl, rfl, rfl⟩) (by decide +kernel) (Nat.le_of_ble_eq_true rfl) (by decide +kernel) (by decide +kernel) (Nat.le_of_ble_eq_true rfl) d5_init_109 ?_
  refine gn_iinc hK (x := 2) (y := 3) rfl zc3 (lv2 := [(0, .ref (Z.2.2.1 + 1)), (1, .int (zi 3))]) 1 rfl [1, 0] rfl (by decide) d5_init_110 ?_
  refine g_goto hK (tgt := 91) (by decide) d5_init_113 ?_
  refine g_iload_n hK 1 rfl rfl d5_init_91 ?_
  refine g_bipush hK d5_init_92 zkb8 ?_
  refine gn_ge0 hK (x := 3) (y := 8) (tgt := 116) zc3 zc8 (by decide) (by decide) d5_init_94 ?_
  refine g_aload_n hK 0 rfl rfl d5_init_97 ?_
  refine gn_getR hK (t := 1) (j := 8) (r := 4) zfin_5 (fa_5_8 (by decide +kernel)) (Nat.le_of_ble_eq_true rfl) ((zR_nk (by decide)).trans ((mk3_lt (by decide) (by decide)).trans ((zR_nk (by decide)).trans ((mk3_lt (by decide) (by decide)).trans ((zR_nk (by decide)).trans ((mk3_lt (by decide) (by decide)).trans ((zR_ni (by decide)).trans ((mk4_lt (by decide)).trans ((zR_ni (by decide)).trans ((mk3_lt (by decide) (by decide)).trans ((zR_ni (by decide)).trans ((mk1_lt (by decide)).trans ((zR_ni (by decide)).trans ((mk0_7_lt (by decide)).trans ((zR_ni (by decide)).trans ((zR_ni (by decide)).trans (zR_eq rfl rfl))))))))))))))))) (by decide) q_289 d5_init_98 ?_
  refine g_iload_n hK 1 rfl rfl d5_init_101 ?_
  refine gn_new hK (n := 242) (cb := 48) (sb := 15818) (ci := 3) tyX3 zfin_3 rfl (by decide) (by decide +kernel) tyX3_ok hdf3 q_31 q_178 q_5 d5_init_102 ?_
  refine g_dup hK d5_init_105 rfl ?_
  refine gn_callN hK hKi (b := 243) (rest := [.ref (Z.2.2.1 + 243), .int (zi 3), .ref (Z.2.2.1 + 4)]) (As := []) (nA := 0) (cb := 42) (sb := 13566) (rm := rmI3) (q := (243, _)) (ci_3 K.2.1 hK.2.2.2.2.2.2.2.2.1 Z (by decide +kernel)) qn_179 q_180 q_5 q_181 rfl rfl (by decide +kernel) (by decide) (Nat.le_of_ble_eq_true rfl) (Nat.le_of_ble_eq_true rfl) (Nat.le_of_ble_eq_true rfl) rfl d5_init_106 ?_
  refine gn_aast hK (t := 4) (i := 3) (r := 243) (kd := 104) (tq := 4) (ci := 3) (Or.inl ⟨rfl, rfl, rfl⟩) (by decide +kernel) (Nat.le_of_ble_eq_true rfl) (by decide +kernel) (by decide +kernel) (Nat.le_of_ble_eq_true rfl) d5_init_109 ?_
  refine gn_iinc hK (x := 3) (y := 4) rfl zc4 (lv2 := [(0, .ref (Z.2.2.1 + 1)), (1, .int (zi 4))]) 1 rfl [1, 0] rfl (by decide) d5_init_110 ?_
  refine g_goto hK (tgt := 91) (by decide) d5_init_113 ?_
  refine g_iload_n hK 1 rfl rfl d5_init_91 ?_
  refine g_bipush hK d5_init_92 zkb8 ?_
  refine gn_ge0 hK (x := 4) (y := 8) (tgt := 116) zc4 zc8 (by decide) (by decide) d5_init_94 ?_
  refine g_aload_n hK 0 rfl rfl d5_init_97 ?_
  refine gn_getR hK (t := 1) (j := 8) (r := 4) zfin_5 (fa_5_8 (by decide +kernel)) (Nat.le_of_ble_eq_true rfl) ((zR_nk (by decide)).trans ((mk3_lt (by decide) (by decide)).trans ((zR_nk (by decide)).trans ((mk3_lt (by decide) (by decide)).trans ((zR_nk (by decide)).trans ((mk3_lt (by decide) (by decide)).trans ((zR_nk (by decide)).trans ((mk3_lt (by decide) (by decide)).trans ((zR_ni (by decide)).trans ((mk4_lt (by decide)).trans ((zR_ni (by decide)).trans ((mk3_lt (by decide) (by decide)).trans ((zR_ni (by decide)).trans ((mk1_lt (by decide)).trans ((zR_ni (by decide)).trans ((mk0_7_lt (by decide)).trans ((zR_ni (by decide)).trans ((zR_ni (by decide)).trans (zR_eq rfl rfl))))))))))))))))))) (by decide) q_289 d5_init_98 ?_
  refine g_iload_n hK 1 rfl rfl d5_init_101 ?_
  refine gn_new hK (n := 249) (cb := 41) (sb := 13557) (ci := 3) tyX3 zfin_3 rfl (by decide) (by decide +kernel) tyX3_ok hdf3 q_31 q_178 q_5 d5_init_102 ?_
  refine g_dup hK d5_init_105 rfl ?_
  refine gn_callN hK hKi (b := 250) (rest := [.ref (Z.2.2.1 + 250), .int (zi 4), .ref (Z.2.2.1 + 4)]) (As := []) (nA := 0) (cb := 35) (sb := 11305) (rm := rmI3) (q := (250, _)) (ci_3 K.2.1 hK.2.2.2.2.2.2.2.2.1 Z (by decide +kernel)) qn_179 q_180 q_5 q_181 rfl rfl (by decide +kernel) (by decide) (Nat.le_of_ble_eq_true rfl) (Nat.le_of_ble_eq_true rfl) (Nat.le_of_ble_eq_true rfl) rfl d5_init_106 ?_
  refine gn_aast hK (t := 4) (i := 4) (r := 250) (kd := 104) (tq := 4) (ci := 3) (Or.inl ⟨rfl, rfl, rfl⟩) (by decide +kernel) (Nat.le_of_ble_eq_true rfl) (by decide +kernel) (by decide +kernel) (Nat.le_of_ble_eq_true rfl) d5_init_109 ?_
  refine gn_iinc hK (x := 4) (y := 5) rfl zc5 (lv2 := [(0, .ref (Z.2.2.1 + 1)), (1, .int (zi 5))]) 1 rfl [1, 0] rfl (by decide) d5_init_110 ?_
  refine g_goto hK (tgt := 91) (by decide) d5_init_113 ?_
  refine g_iload_n hK 1 rfl rfl d5_init_91 ?_
  refine g_bipush hK d5_init_92 zkb8 ?_
  refine gn_ge0 hK (x := 5) (y := 8) (tgt := 116) zc5 zc8 (by decide) (by decide) d5_init_94 ?_
  refine g_aload_n hK 0 rfl rfl d5_init_97 ?_
  refine gn_getR hK (t := 1) (j := 8) (r := 4) zfin_5 (fa_5_8 (by decide +kernel)) (Nat.le_of_ble_eq_true rfl) ((zR_nk (by decide)).trans ((mk3_lt (by decide) (by decide)).trans ((zR_nk (by decide)).trans ((mk3_lt (by decide) (by decide)).trans ((zR_nk (by decide)).trans ((mk3_lt (by decide) (by decide)).trans ((zR_nk (by decide)).trans ((mk3_lt (by decide) (by decide)).trans ((zR_nk (by decide)).trans ((mk3_lt (by decide) (by decide)).trans ((zR_ni (by decide)).trans ((mk4_lt (by decide)).trans ((zR_ni (by decide)).trans ((mk3_lt (by decide) (by decide)).trans ((zR_ni (by decide)).trans ((mk1_lt (by decide)).trans ((zR_ni (by decide)).trans ((mk0_7_lt (by decide)).trans ((zR_ni (by decide)).trans ((zR_ni (by decide)).trans (zR_eq rfl rfl))))))))))))))))))))) (by decide) q_289 d5_init_98 ?_
  refine g_iload_n hK 1 rfl rfl d5_init_101 ?_
  refine gn_new hK (n := 256) (cb := 34) (sb := 11296) (ci := 3) tyX3 zfin_3 rfl (by decide) (by decide +kernel) tyX3_ok hdf3 q_31 q_178 q_5 d5_init_102 ?_
  refine g_dup hK d5_init_105 rfl ?_
  refine gn_callN hK hKi (b := 257) (rest := [.ref (Z.2.2.1 + 257), .int (zi 5), .ref (Z.2.2.1 + 4)]) (As := []) (nA := 0) (cb := 28) (sb := 9044) (rm := rmI3) (q := (257, _)) (ci_3 K.2.1 hK.2.2.2.2.2.2.2.2.1 Z (by decide +kernel)) qn_179 q_180 q_5 q_181 rfl rfl (by decide +kernel) (by decide) (Nat.le_of_ble_eq_true rfl) (Nat.le_of_ble_eq_true rfl) (Nat.le_of_ble_eq_true rfl) rfl d5_init_106 ?_
  refine gn_aast hK (t := 4) (i := 5) (r := 257) (kd := 104) (tq := 4) (ci := 3) (Or.inl ⟨rfl, rfl, rfl⟩) (by decide +kernel) (Nat.le_of_ble_eq_true rfl) (by decide +kernel) (by decide +kernel) (Nat.le_of_ble_eq_true rfl) d5_init_109 ?_
  refine gn_iinc hK (x := 5) (y := 6) rfl zc6 (lv2 := [(0, .ref (Z.2.2.1 + 1)), (1, .int (zi 6))]) 1 rfl [1, 0] rfl (by decide) d5_init_110 ?_
  refine g_goto hK (tgt := 91) (by decide) d5_init_113 ?_
  refine g_iload_n hK 1 rfl rfl d5_init_91 ?_
  refine g_bipush hK d5_init_92 zkb8 ?_
  refine gn_ge0 hK (x := 6) (y := 8) (tgt := 116) zc6 zc8 (by decide) (by decide) d5_init_94 ?_
  refine g_aload_n hK 0 rfl rfl d5_init_97 ?_
  refine gn_getR hK (t := 1) (j := 8) (r := 4) zfin_5 (fa_5_8 (by decide +kernel)) (Nat.le_of_ble_eq_true rfl) ((zR_nk (by decide)).trans ((mk3_lt (by decide) (by decide)).trans ((zR_nk (by decide)).trans ((mk3_lt (by decide) (by decide)).trans ((zR_nk (by decide)).trans ((mk3_lt (by decide) (by decide)).trans ((zR_nk (by decide)).trans ((mk3_lt (by decide) (by decide)).trans ((zR_nk (by decide)).trans ((mk3_lt (by decide) (by decide)).trans ((zR_nk (by decide)).trans ((mk3_lt (by decide) (by decide)).trans ((zR_ni (by decide)).trans ((mk4_lt (by decide)).trans ((zR_ni (by decide)).trans ((mk3_lt (by decide) (by decide)).trans ((zR_ni (by decide)).trans ((mk1_lt (by decide)).trans ((zR_ni (by decide)).trans ((mk0_7_lt (by decide)).trans ((zR_ni (by decide)).trans ((zR_ni (by decide)).trans (zR_eq rfl rfl))))))))))))))))))))))) (by decide) q_289 d5_init_98 ?_
  refine g_iload_n hK 1 rfl rfl d5_init_101 ?_
  refine gn_new hK (n := 263) (cb := 27) (sb := 9035) (ci := 3) tyX3 zfin_3 rfl (by decide) (by decide +kernel) tyX3_ok hdf3 q_31 q_178 q_5 d5_init_102 ?_
  refine g_dup hK d5_init_105 rfl ?_
  refine gn_callN hK hKi (b := 264) (rest := [.ref (Z.2.2.1 + 264), .int (zi 6), .ref (Z.2.2.1 + 4)]) (As := []) (nA := 0) (cb := 21) (sb := 6783) (rm := rmI3) (q := (264, _)) (ci_3 K.2.1 hK.2.2.2.2.2.2.2.2.1 Z (by decide +kernel)) qn_179 q_180 q_5 q_181 rfl rfl (by decide +kernel) (by decide) (Nat.le_of_ble_eq_true rfl) (Nat.le_of_ble_eq_true rfl) (Nat.le_of_ble_eq_true rfl) rfl d5_init_106 ?_
  refine gn_aast hK (t := 4) (i := 6) (r := 264) (kd := 104) (tq := 4) (ci := 3) (Or.inl ⟨rfl, rfl, rfl⟩) (by decide +kernel) (Nat.le_of_ble_eq_true rfl) (by decide +kernel) (by decide +kernel) (Nat.le_of_ble_eq_true rfl) d5_init_109 ?_
  refine gn_iinc hK (x := 6) (y := 7) rfl zc7 (lv2 := [(0, .ref (Z.2.2.1 + 1)), (1, .int (zi 7))]) 1 rfl [1, 0] rfl (by decide) d5_init_110 ?_
  refine g_goto hK (tgt := 91) (by decide) d5_init_113 ?_
  refine g_iload_n hK 1 rfl rfl d5_init_91 ?_
  refine g_bipush hK d5_init_92 zkb8 ?_
  refine gn_ge0 hK (x := 7) (y := 8) (tgt := 116) zc7 zc8 (by decide) (by decide) d5_init_94 ?_
  refine g_aload_n hK 0 rfl rfl d5_init_97 ?_
  refine gn_getR hK (t := 1) (j := 8) (r := 4) zfin_5 (fa_5_8 (by decide +kernel)) (Nat.le_of_ble_eq_true rfl) ((zR_nk (by decide)).trans ((mk3_lt (by decide) (by decide)).trans ((zR_nk (by decide)).trans ((mk3_lt (by decide) (by decide)).trans ((zR_nk (by decide)).trans ((mk3_lt (by decide) (by decide)).trans ((zR_nk (by decide)).trans ((mk3_lt (by decide) (by decide)).trans ((zR_nk (by decide)).trans ((mk3_lt (by decide) (by decide)).trans ((zR_nk (by decide)).trans ((mk3_lt (by decide) (by decide)).trans ((zR_nk (by decide)).trans ((mk3_lt (by decide) (by decide)).trans ((zR_ni (by decide)).trans ((mk4_lt (by decide)).trans ((zR_ni (by decide)).trans ((mk3_lt (by decide) (by decide)).trans ((zR_ni (by decide)).trans ((mk1_lt (by decide)).trans ((zR_ni (by decide)).trans ((mk0_7_lt (by decide)).trans ((zR_ni (by decide)).trans ((zR_ni (by decide)).trans (zR_eq rfl rfl))))))))))))))))))))))))) (by decide) q_289 d5_init_98 ?_
  refine g_iload_n hK 1 rfl rfl d5_init_101 ?_
  refine gn_new hK (n := 270) (cb := 20) (sb := 6774) (ci := 3) tyX3 zfin_3 rfl (by decide) (by decide +kernel) tyX3_ok hdf3 q_31 q_178 q_5 d5_init_102 ?_
  refine g_dup hK d5_init_105 rfl ?_
  refine gn_callN hK hKi (b := 271) (rest := [.ref (Z.2.2.1 + 271), .int (zi 7), .ref (Z.2.2.1 + 4)]) (As := []) (nA := 0) (cb := 14) (sb := 4522) (rm := rmI3) (q := (271, _)) (ci_3 K.2.1 hK.2.2.2.2.2.2.2.2.1 Z (by decide +kernel)) qn_179 q_180 q_5 q_181 rfl rfl (by decide +kernel) (by decide) (Nat.le_of_ble_eq_true rfl) (Nat.le_of_ble_eq_true rfl) (Nat.le_of_ble_eq_true rfl) rfl d5_init_106 ?_
  refine gn_aast hK (t := 4) (i := 7) (r := 271) (kd := 104) (tq := 4) (ci := 3) (Or.inl ⟨rfl, rfl, rfl⟩) (by decide +kernel) (Nat.le_of_ble_eq_true rfl) (by decide +kernel) (by decide +kernel) (Nat.le_of_ble_eq_true rfl) d5_init_109 ?_
  refine gn_iinc hK (x := 7) (y := 8) rfl zc8 (lv2 := [(0, .ref (Z.2.2.1 + 1)), (1, .int (zi 8))]) 1 rfl [1, 0] rfl (by decide) d5_init_110 ?_
  refine g_goto hK (tgt := 91) (by decide) d5_init_113 ?_
  refine g_iload_n hK 1 rfl rfl d5_init_91 ?_
  refine g_bipush hK d5_init_92 zkb8 ?_
  refine gn_ge1 hK (x := 8) (y := 8) (tgt := 116) zc8 zc8 (by decide) (by decide) d5_init_94 ?_
  refine g_iconst hK d5_init_116 zki0 ?_
  refine g_istore_n hK (lv2 := [(0, .ref (Z.2.2.1 + 1)), (1, .int (zi 0))]) [1, 0] rfl rfl (by decide) d5_init_117 ?_
  refine g_iload_n hK 1 rfl rfl d5_init_118 ?_
  refine g_iconst hK d5_init_119 zki2 ?_
  refine gn_ge0 hK (x := 0) (y := 2) (tgt := 142) zc0 zc2 (by decide) (by decide) d5_init_120 ?_
  refine g_aload_n hK 0 rfl rfl d5_init_123 ?_
  refine gn_getR hK (t := 1) (j := 11) (r := 5) zfin_5 (fa_5_11 (by decide +kernel)) (Nat.le_of_ble_eq_true rfl) ((zR_nk (by decide)).trans ((mk3_lt (by decide) (by decide)).trans ((zR_nk (by decide)).trans ((mk3_lt (by decide) (by decide)).trans ((zR_nk (by decide)).trans ((mk3_lt (by decide) (by decide)).trans ((zR_nk (by decide)).trans ((mk3_lt (by decide) (by decide)).trans ((zR_nk (by decide)).trans ((mk3_lt (by decide) (by decide)).trans ((zR_nk (by decide)).trans ((mk3_lt (by decide) (by decide)).trans ((zR_nk (by decide)).trans ((mk3_lt (by decide) (by decide)).trans ((zR_nk (by decide)).trans ((mk3_lt (by decide) (by decide)).trans ((zR_ni (by decide)).trans ((mk4_lt (by decide)).trans ((zR_ni (by decide)).trans ((mk3_lt (by decide) (by decide)).trans ((zR_ni (by decide)).trans ((mk1_lt (by decide)).trans ((zR_ni (by decide)).trans ((mk0_7_lt (by decide)).trans ((zR_ni (by decide)).trans (zR_eq rfl rfl)))))))))))))))))))))))))) (by decide) q_292 d5_init_124 ?_
  refine g_iload_n hK 1 rfl rfl d5_init_127 ?_
  refine gn_new hK (n := 277) (cb := 13) (sb := 4513) (ci := 3) tyX3 zfin_3 rfl (by decide) (by decide +kernel) tyX3_ok hdf3 q_31 q_178 q_5 d5_init_128 ?_
  refine g_dup hK d5_init_131 rfl ?_
  refine gn_callN hK hKi (b := 278) (rest := [.ref (Z.2.2.1 + 278), .int (zi 0), .ref (Z.2.2.1 + 5)]) (As := []) (nA := 0) (cb := 7) (sb := 2261) (rm := rmI3) (q := (278, _)) (ci_3 K.2.1 hK.2.2.2.2.2.2.2.2.1 Z (by decide +kernel)) qn_179 q_180 q_5 q_181 rfl rfl (by decide +kernel) (by decide) (Nat.le_of_ble_eq_true rfl) (Nat.le_of_ble_eq_true rfl) (Nat.le_of_ble_eq_true rfl) rfl d5_init_132 ?_
  refine gn_aast hK (t := 5) (i := 0) (r := 278) (kd := 104) (tq := 4) (ci := 3) (Or.inl ⟨rfl, rfl, rfl⟩) (by decide +kernel) (Nat.le_of_ble_eq_true rfl) (by decide +kernel) (by decide +kernel) (Nat.le_of_ble_eq_true rfl) d5_init_135 ?_
  refine gn_iinc hK (x := 0) (y := 1) rfl zc1 (lv2 := [(0, .ref (Z.2.2.1 + 1)), (1, .int (zi 1))]) 1 rfl [1, 0] rfl (by decide) d5_init_136 ?_
  refine g_goto hK (tgt := 118) (by decide) d5_init_139 ?_
  refine g_iload_n hK 1 rfl rfl d5_init_118 ?_
  refine g_iconst hK d5_init_119 zki2 ?_
  refine gn_ge0 hK (x := 1) (y := 2) (tgt := 142) zc1 zc2 (by decide) (by decide) d5_init_120 ?_
  refine g_aload_n hK 0 rfl rfl d5_init_123 ?_
  refine gn_getR hK (t := 1) (j := 11) (r := 5) zfin_5 (fa_5_11 (by decide +kernel)) (Nat.le_of_ble_eq_true rfl) ((zR_nk (by decide)).trans ((mk3_lt (by decide) (by decide)).trans ((zR_nk (by decide)).trans ((mk3_lt (by decide) (by decide)).trans ((zR_nk (by decide)).trans ((mk3_lt (by decide) (by decide)).trans ((zR_nk (by decide)).trans ((mk3_lt (by decide) (by decide)).trans ((zR_nk (by decide)).trans ((mk3_lt (by decide) (by decide)).trans ((zR_nk (by decide)).trans ((mk3_lt (by decide) (by decide)).trans ((zR_nk (by decide)).trans ((mk3_lt (by decide) (by decide)).trans ((zR_nk (by decide)).trans ((mk3_lt (by decide) (by decide)).trans ((zR_nk (by decide)).trans ((mk3_lt (by decide) (by decide)).trans ((zR_ni (by decide)).trans ((mk4_lt (by decide)).trans ((zR_ni (by decide)).trans ((mk3_lt (by decide) (by decide)).trans ((zR_ni (by decide)).trans ((mk1_lt (by decide)).trans ((zR_ni (by decide)).trans ((mk0_7_lt (by decide)).trans ((zR_ni (by decide)).trans (zR_eq rfl rfl)))))))))))))))))))))))))))) (by decide) q_292 d5_init_124 ?_
  refine g_iload_n hK 1 rfl rfl d5_init_127 ?_
  refine gn_new hK (n := 284) (cb := 6) (sb := 2252) (ci := 3) tyX3 zfin_3 rfl (by decide) (by decide +kernel) tyX3_ok hdf3 q_31 q_178 q_5 d5_init_128 ?_
  refine g_dup hK d5_init_131 rfl ?_
  refine gn_callN hK hKi (b := 285) (rest := [.ref (Z.2.2.1 + 285), .int (zi 1), .ref (Z.2.2.1 + 5)]) (As := []) (nA := 0) (cb := 0) (sb := 0) (rm := rmI3) (q := (285, _)) (ci_3 K.2.1 hK.2.2.2.2.2.2.2.2.1 Z (by decide +kernel)) qn_179 q_180 q_5 q_181 rfl rfl (by decide +kernel) (by decide) (Nat.le_of_ble_eq_true rfl) (Nat.le_of_ble_eq_true rfl) (Nat.le_of_ble_eq_true rfl) rfl d5_init_132 ?_
  refine gn_aast hK (t := 5) (i := 1) (r := 285) (kd := 104) (tq := 4) (ci := 3) (Or.inl ⟨rfl, rfl, rfl⟩) (by decide +kernel) (Nat.le_of_ble_eq_true rfl) (by decide +kernel) (by decide +kernel) (Nat.le_of_ble_eq_true rfl) d5_init_135 ?_
  refine gn_iinc hK (x := 1) (y := 2) rfl zc2 (lv2 := [(0, .ref (Z.2.2.1 + 1)), (1, .int (zi 2))]) 1 rfl [1, 0] rfl (by decide) d5_init_136 ?_
  refine g_goto hK (tgt := 118) (by decide) d5_init_139 ?_
  refine g_iload_n hK 1 rfl rfl d5_init_118 ?_
  refine g_iconst hK d5_init_119 zki2 ?_
  refine gn_ge1 hK (x := 2) (y := 2) (tgt := 142) zc2 zc2 (by decide) (by decide) d5_init_120 ?_
  refine g_aload_n hK 0 rfl rfl d5_init_142 ?_
  refine g_iconst hK d5_init_143 zkim1 ?_
  refine gn_putI hK (t := 1) (j := 5) zfin_5 (fa_5_5 (by decide +kernel)) (Nat.le_of_ble_eq_true rfl) q_286 rfl (tyX5_ok 5 (by decide)) tyX5 tyX5_ok nmX5 d5_init_144 ?_
  exact gn_ret hK d5_init_147
theorem mk5_lt {k j : Nat} {μ : zM} (hk : k < 1) : zR (mk5 μ) k j = zR μ k j := by
  unfold mk5
  rw [zR_zsI, zR_nk (by omega), mk3_lt (by decide) (by omega), zR_nk (by omega), mk3_lt (by decide) (by omega), zR_nk (by omega), mk3_lt (by decide) (by omega), zR_nk (by omega), mk3_lt (by decide) (by omega), zR_nk (by omega), mk3_lt (by decide) (by omega), zR_nk (by omega), mk3_lt (by decide) (by omega), zR_nk (by omega), mk3_lt (by decide) (by omega), zR_nk (by omega), mk3_lt (by decide) (by omega), zR_nk (by omega), mk3_lt (by decide) (by omega), zR_nk (by omega), mk3_lt (by decide) (by omega), zR_nk (by omega), mk4_lt (by omega), zR_nk (by omega), mk3_lt (by decide) (by omega), zR_nk (by omega), mk1_lt (by omega), zR_nk (by omega), mk0_7_lt (by omega), zR_nk (by omega), zR_nk (by omega), zR_nk (by omega), zR_nk (by omega), zR_nk (by omega)]
def rmI7 : Room := { frames := 2, cells := 46, slots := 46996, locals := 32 }
def mk7 (μ : zM) : zM := (zsR (zsR (zsR (zsR (zsR (zsR (zsR (zsR (zsR (zsR (zsR (zsR (mk6 314 314 (zsI (zsR (zsR (mk6 299 299 (zsR (zsR (zsR (zsR (zsR (zsR μ 292 1 293) 292 2 294) 292 3 295) 292 4 296) 292 5 297) 292 6 298)) 292 8 299) 292 9 313) 292 12 (-1))) 292 13 314) 292 18 328) 292 23 329) 292 24 330) 292 25 331) 292 26 332) 292 28 333) 292 30 334) 292 31 335) 292 32 336) 292 34 337) 292 35 338)
set_option maxRecDepth 20000 in
theorem ci_7 (l : Launch) (hst : l.stackTraces = false) (Z : zZ) {μ : zM} : zCtI l Z y7_init (zws (.code y7_init b7_init 1 none)) rmI7 [.ref (Z.2.2.1 + 292)] (292, μ) (338, mk7 μ) := by
  refine zCtI.of (by decide) hst (Nat.le_of_ble_eq_true rfl) (fun K hK hKi hname hl => ?_)
  have hin2 : K.2.2.2.2.2.2.2.2.1.name = "<init>" := hname.trans rfl
  show zG K Z (zΩn Z) (zFi K Z) 46 46996 0 [(0, .ref (Z.2.2.1 + 292))] [] (292, μ) _
  refine g_aload_n hK 0 rfl rfl d7_init_0 ?_
  refine gn_oi hK q_1131 q_29 q_30 (Nat.le_of_ble_eq_true rfl) (Nat.le_of_ble_eq_true rfl) d7_init_1 ?_
  refine g_aload_n hK 0 rfl rfl d7_init_4 ?_
  refine g_sipush hK d7_init_5 zks2256 ?_
  refine gn_newI hK (n := 292) (cb := 45) (sb := 44740) (len := 2256) rfl (by decide) (by decide +kernel) (by decide +kernel) q_126 d7_init_8 ?_
  refine gn_putF hK hin2 (t := 292) (r := 293) (j := 1) zfin_7 (fa_7_1 (by decide +kernel)) (Nat.le_of_ble_eq_true rfl) (by decide) q_1198 (fun _ => rfl) (fun _ => rfl) rfl rfl (tyX7_ok 1 (by decide)) tyX7 tyX7_ok nmX7 d7_init_10 ?_
  refine g_aload_n hK 0 rfl rfl d7_init_13 ?_
  refine g_sipush hK d7_init_14 zks2256 ?_
  refine gn_newI hK (n := 293) (cb := 44) (sb := 42484) (len := 2256) rfl (by decide) (by decide +kernel) (by decide +kernel) q_126 d7_init_17 ?_
  refine gn_putF hK hin2 (t := 292) (r := 294) (j := 2) zfin_7 (fa_7_2 (by decide +kernel)) (Nat.le_of_ble_eq_true rfl) (by decide) q_1199 (fun _ => rfl) (fun _ => rfl) rfl rfl (tyX7_ok 2 (by decide)) tyX7 tyX7_ok nmX7 d7_init_19 ?_
  refine g_aload_n hK 0 rfl rfl d7_init_22 ?_
  refine g_sipush hK d7_init_23 zks18048 ?_
  refine gn_newI hK (n := 294) (cb := 43) (sb := 24436) (len := 18048) rfl (by decide) (by decide +kernel) (by decide +kernel) q_126 d7_init_26 ?_
  refine gn_putF hK hin2 (t := 292) (r := 295) (j := 3) zfin_7 (fa_7_3 (by decide +kernel)) (Nat.le_of_ble_eq_true rfl) (by decide) q_1200 (fun _ => rfl) (fun _ => rfl) rfl rfl (tyX7_ok 3 (by decide)) tyX7 tyX7_ok nmX7 d7_init_28 ?_
  refine g_aload_n hK 0 rfl rfl d7_init_31 ?_
  refine g_sipush hK d7_init_32 zks4512 ?_
  refine gn_newI hK (n := 295) (cb := 42) (sb := 19924) (len := 4512) rfl (by decide) (by decide +kernel) (by decide +kernel) q_126 d7_init_35 ?_
  refine gn_putF hK hin2 (t := 292) (r := 296) (j := 4) zfin_7 (fa_7_4 (by decide +kernel)) (Nat.le_of_ble_eq_true rfl) (by decide) q_1201 (fun _ => rfl) (fun _ => rfl) rfl rfl (tyX7_ok 4 (by decide)) tyX7 tyX7_ok nmX7 d7_init_37 ?_
  refine g_aload_n hK 0 rfl rfl d7_init_40 ?_
  refine g_iconst hK d7_init_41 zki2 ?_
  refine gn_newZ hK (n := 296) (cb := 41) (sb := 19922) (len := 2) rfl (by decide) (by decide +kernel) (by decide +kernel) q_127 d7_init_42 ?_
  refine gn_putF hK hin2 (t := 292) (r := 297) (j := 5) zfin_7 (fa_7_5 (by decide +kernel)) (Nat.le_of_ble_eq_true rfl) (by decide) q_1202 (fun _ => rfl) (fun _ => rfl) rfl rfl (tyX7_ok 5 (by decide)) tyX7 tyX7_ok nmX7 d7_init_44 ?_
  refine g_aload_n hK 0 rfl rfl d7_init_47 ?_
  refine g_bipush hK d7_init_48 zkb10 ?_
  refine gn_newI hK (n := 297) (cb := 40) (sb := 19912) (len := 10) rfl (by decide) (by decide +kernel) (by decide +kernel) q_126 d7_init_50 ?_
  refine gn_putF hK hin2 (t := 292) (r := 298) (j := 6) zfin_7 (fa_7_6 (by decide +kernel)) (Nat.le_of_ble_eq_true rfl) (by decide) q_1203 (fun _ => rfl) (fun _ => rfl) rfl rfl (tyX7_ok 6 (by decide)) tyX7 tyX7_ok nmX7 d7_init_52 ?_
  refine g_aload_n hK 0 rfl rfl d7_init_55 ?_
  refine gn_new hK (n := 298) (cb := 39) (sb := 19897) (ci := 6) tyX6 zfin_6 rfl (by decide) (by decide +kernel) tyX6_ok hdf6 q_1132 q_1133 q_8 d7_init_56 ?_
  refine g_dup hK d7_init_59 rfl ?_
  refine gn_callN hK hKi (b := 299) (rest := [.ref (Z.2.2.1 + 299), .ref (Z.2.2.1 + 292)]) (As := []) (nA := 0) (cb := 26) (sb := 15668) (rm := rmI6) (q := (299, _)) (ci_6 K.2.1 hK.2.2.2.2.2.2.2.2.1 Z (by decide +kernel)) qn_1134 q_1135 q_8 q_1136 rfl rfl (by decide +kernel) (by decide) (Nat.le_of_ble_eq_true rfl) (Nat.le_of_ble_eq_true rfl) (Nat.le_of_ble_eq_true rfl) rfl d7_init_60 ?_
  refine gn_putM hK (t := 292) (r := 299) (j := 8) zfin_7 (fa_7_8 (by decide +kernel)) (Nat.le_of_ble_eq_true rfl) (by decide) q_1205 (fun _ => rfl) (fun _ => rfl) rfl (tyX7_ok 8 (by decide)) tyX7 tyX7_ok nmX7 d7_init_63 ?_
  refine g_aload_n hK 0 rfl rfl d7_init_66 ?_
  refine g_sipush hK d7_init_67 zks700 ?_
  refine gn_newI hK (n := 312) (cb := 25) (sb := 14968) (len := 700) rfl (by decide) (by decide +kernel) (by decide +kernel) q_126 d7_init_70 ?_
  refine gn_putF hK hin2 (t := 292) (r := 313) (j := 9) zfin_7 (fa_7_9 (by decide +kernel)) (Nat.le_of_ble_eq_true rfl) (by decide) q_1206 (fun _ => rfl) (fun _ => rfl) rfl rfl (tyX7_ok 9 (by decide)) tyX7 tyX7_ok nmX7 d7_init_72 ?_
  refine g_aload_n hK 0 rfl rfl d7_init_75 ?_
  refine g_iconst hK d7_init_76 zkim1 ?_
  refine gn_putI hK (t := 292) (j := 12) zfin_7 (fa_7_12 (by decide +kernel)) (Nat.le_of_ble_eq_true rfl) q_1209 rfl (tyX7_ok 12 (by decide)) tyX7 tyX7_ok nmX7 d7_init_77 ?_
  refine g_aload_n hK 0 rfl rfl d7_init_80 ?_
  refine gn_new hK (n := 313) (cb := 24) (sb := 14953) (ci := 6) tyX6 zfin_6 rfl (by decide) (by decide +kernel) tyX6_ok hdf6 q_1132 q_1133 q_8 d7_init_81 ?_
  refine g_dup hK d7_init_84 rfl ?_
  refine gn_callN hK hKi (b := 314) (rest := [.ref (Z.2.2.1 + 314), .ref (Z.2.2.1 + 292)]) (As := []) (nA := 0) (cb := 11) (sb := 10724) (rm := rmI6) (q := (314, _)) (ci_6 K.2.1 hK.2.2.2.2.2.2.2.2.1 Z (by decide +kernel)) qn_1134 q_1135 q_8 q_1136 rfl rfl (by decide +kernel) (by decide) (Nat.le_of_ble_eq_true rfl) (Nat.le_of_ble_eq_true rfl) (Nat.le_of_ble_eq_true rfl) rfl d7_init_85 ?_
  refine gn_putM hK (t := 292) (r := 314) (j := 13) zfin_7 (fa_7_13 (by decide +kernel)) (Nat.le_of_ble_eq_true rfl) (by decide) q_1210 (fun _ => rfl) (fun _ => rfl) rfl (tyX7_ok 13 (by decide)) tyX7 tyX7_ok nmX7 d7_init_88 ?_
  refine g_aload_n hK 0 rfl rfl d7_init_91 ?_
  refine g_iconst hK d7_init_92 zki4 ?_
  refine gn_newI hK (n := 327) (cb := 10) (sb := 10720) (len := 4) rfl (by decide) (by decide +kernel) (by decide +kernel) q_126 d7_init_93 ?_
  refine gn_putF hK hin2 (t := 292) (r := 328) (j := 18) zfin_7 (fa_7_18 (by decide +kernel)) (Nat.le_of_ble_eq_true rfl) (by decide) q_1215 (fun _ => rfl) (fun _ => rfl) rfl rfl (tyX7_ok 18 (by decide)) tyX7 tyX7_ok nmX7 d7_init_95 ?_
  refine g_aload_n hK 0 rfl rfl d7_init_98 ?_
  refine g_bipush hK d7_init_99 zkb60 ?_
  refine gn_newZ hK (n := 328) (cb := 9) (sb := 10660) (len := 60) rfl (by decide) (by decide +kernel) (by decide +kernel) q_127 d7_init_101 ?_
  refine gn_putF hK hin2 (t := 292) (r := 329) (j := 23) zfin_7 (fa_7_23 (by decide +kernel)) (Nat.le_of_ble_eq_true rfl) (by decide) q_1220 (fun _ => rfl) (fun _ => rfl) rfl rfl (tyX7_ok 23 (by decide)) tyX7 tyX7_ok nmX7 d7_init_103 ?_
  refine g_aload_n hK 0 rfl rfl d7_init_106 ?_
  refine g_bipush hK d7_init_107 zkb60 ?_
  refine gn_newZ hK (n := 329) (cb := 8) (sb := 10600) (len := 60) rfl (by decide) (by decide +kernel) (by decide +kernel) q_127 d7_init_109 ?_
  refine gn_putF hK hin2 (t := 292) (r := 330) (j := 24) zfin_7 (fa_7_24 (by decide +kernel)) (Nat.le_of_ble_eq_true rfl) (by decide) q_1221 (fun _ => rfl) (fun _ => rfl) rfl rfl (tyX7_ok 24 (by decide)) tyX7 tyX7_ok nmX7 d7_init_111 ?_
  refine g_aload_n hK 0 rfl rfl d7_init_114 ?_
  refine g_bipush hK d7_init_115 zkb10 ?_
  refine gn_newI hK (n := 330) (cb := 7) (sb := 10590) (len := 10) rfl (by decide) (by decide +kernel) (by decide +kernel) q_126 d7_init_117 ?_
  refine gn_putF hK hin2 (t := 292) (r := 331) (j := 25) zfin_7 (fa_7_25 (by decide +kernel)) (Nat.le_of_ble_eq_true rfl) (by decide) q_1222 (fun _ => rfl) (fun _ => rfl) rfl rfl (tyX7_ok 25 (by decide)) tyX7 tyX7_ok nmX7 d7_init_119 ?_
  refine g_aload_n hK 0 rfl rfl d7_init_122 ?_
  refine g_bipush hK d7_init_123 zkb10 ?_
  refine gn_newI hK (n := 331) (cb := 6) (sb := 10580) (len := 10) rfl (by decide) (by decide +kernel) (by decide +kernel) q_126 d7_init_125 ?_
  refine gn_putF hK hin2 (t := 292) (r := 332) (j := 26) zfin_7 (fa_7_26 (by decide +kernel)) (Nat.le_of_ble_eq_true rfl) (by decide) q_1223 (fun _ => rfl) (fun _ => rfl) rfl rfl (tyX7_ok 26 (by decide)) tyX7 tyX7_ok nmX7 d7_init_127 ?_
  refine g_aload_n hK 0 rfl rfl d7_init_130 ?_
  refine g_sipush hK d7_init_131 zks6000 ?_
  refine gn_newI hK (n := 332) (cb := 5) (sb := 4580) (len := 6000) rfl (by decide) (by decide +kernel) (by decide +kernel) q_126 d7_init_134 ?_
  refine gn_putF hK hin2 (t := 292) (r := 333) (j := 28) zfin_7 (fa_7_28 (by decide +kernel)) (Nat.le_of_ble_eq_true rfl) (by decide) q_1225 (fun _ => rfl) (fun _ => rfl) rfl rfl (tyX7_ok 28 (by decide)) tyX7 tyX7_ok nmX7 d7_init_136 ?_
  refine g_aload_n hK 0 rfl rfl d7_init_139 ?_
  refine g_sipush hK d7_init_140 zks4100 ?_
  refine gn_newI hK (n := 333) (cb := 4) (sb := 480) (len := 4100) rfl (by decide) (by decide +kernel) (by decide +kernel) q_126 d7_init_143 ?_
  refine gn_putF hK hin2 (t := 292) (r := 334) (j := 30) zfin_7 (fa_7_30 (by decide +kernel)) (Nat.le_of_ble_eq_true rfl) (by decide) q_1227 (fun _ => rfl) (fun _ => rfl) rfl rfl (tyX7_ok 30 (by decide)) tyX7 tyX7_ok nmX7 d7_init_145 ?_
  refine g_aload_n hK 0 rfl rfl d7_init_148 ?_
  refine g_bipush hK d7_init_149 zkb10 ?_
  refine gn_newZ hK (n := 334) (cb := 3) (sb := 470) (len := 10) rfl (by decide) (by decide +kernel) (by decide +kernel) q_127 d7_init_151 ?_
  refine gn_putF hK hin2 (t := 292) (r := 335) (j := 31) zfin_7 (fa_7_31 (by decide +kernel)) (Nat.le_of_ble_eq_true rfl) (by decide) q_1228 (fun _ => rfl) (fun _ => rfl) rfl rfl (tyX7_ok 31 (by decide)) tyX7 tyX7_ok nmX7 d7_init_153 ?_
  refine g_aload_n hK 0 rfl rfl d7_init_156 ?_
  refine g_bipush hK d7_init_157 zkb10 ?_
  refine gn_newI hK (n := 335) (cb := 2) (sb := 460) (len := 10) rfl (by decide) (by decide +kernel) (by decide +kernel) q_126 d7_init_159 ?_
  refine gn_putF hK hin2 (t := 292) (r := 336) (j := 32) zfin_7 (fa_7_32 (by decide +kernel)) (Nat.le_of_ble_eq_true rfl) (by decide) q_1229 (fun _ => rfl) (fun _ => rfl) rfl rfl (tyX7_ok 32 (by decide)) tyX7 tyX7_ok nmX7 d7_init_161 ?_
  refine g_aload_n hK 0 rfl rfl d7_init_164 ?_
  refine g_bipush hK d7_init_165 zkb60 ?_
  refine gn_newI hK (n := 336) (cb := 1) (sb := 400) (len := 60) rfl (by decide) (by decide +kernel) (by decide +kernel) q_126 d7_init_167 ?_
  refine gn_putF hK hin2 (t := 292) (r := 337) (j := 34) zfin_7 (fa_7_34 (by decide +kernel)) (Nat.le_of_ble_eq_true rfl) (by decide) q_1231 (fun _ => rfl) (fun _ => rfl) rfl rfl (tyX7_ok 34 (by decide)) tyX7 tyX7_ok nmX7 d7_init_169 ?_
  refine g_aload_n hK 0 rfl rfl d7_init_172 ?_
  refine g_sipush hK d7_init_173 zks400 ?_
  refine gn_newI hK (n := 337) (cb := 0) (sb := 0) (len := 400) rfl (by decide) (by decide +kernel) (by decide +kernel) q_126 d7_init_176 ?_
  refine gn_putF hK hin2 (t := 292) (r := 338) (j := 35) zfin_7 (fa_7_35 (by decide +kernel)) (Nat.le_of_ble_eq_true rfl) (by decide) q_1232 (fun _ => rfl) (fun _ => rfl) rfl rfl (tyX7_ok 35 (by decide)) tyX7 tyX7_ok nmX7 d7_init_178 ?_
  exact gn_ret hK d7_init_181
theorem mk7_lt {k j : Nat} {μ : zM} (hk : k < 292) : zR (mk7 μ) k j = zR μ k j := by
  unfold mk7
  rw [zR_nk (by omega), zR_nk (by omega), zR_nk (by omega), zR_nk (by omega), zR_nk (by omega), zR_nk (by omega), zR_nk (by omega), zR_nk (by omega), zR_nk (by omega), zR_nk (by omega), zR_nk (by omega), zR_nk (by omega), mk6_lt (by decide) (by omega), zR_zsI, zR_nk (by omega), zR_nk (by omega), mk6_lt (by decide) (by omega), zR_nk (by omega), zR_nk (by omega), zR_nk (by omega), zR_nk (by omega), zR_nk (by omega), zR_nk (by omega)]
