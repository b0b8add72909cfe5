set_option maxRecDepth 20000 in
theorem cL_append (l : Launch) (hst : l.stackTraces = false) (Z : zZ) (a1 : Int) (a2 : Int) (a3 : Int) (a4 : Int) (a5 : Int) (μ : zM) (ha1 : zr a1) (ha2 : zr a2) (ha3 : zr a3) (ha4 : zr a4) (ha5 : zr a5) : ∀ x, fL_append a1 a2 a3 a4 a5 μ = some x → zCtW l Z yL_append (zwsW yL_append bL_append 8 (some .int) [(0, 16, 19, 13)]) rmL_append [.ref (Z.2.2.1 + 1), .int (zi a1), .int (zi a2), .int (zi a3), .int (zi a4), .int (zi a5), .ref (Z.2.2.1 + 339)] μ (ze2 mkI x) := by
  intro x h
  refine zCtW.of (enc := ze2 mkI) h (by decide) hst (Nat.le_of_ble_eq_true rfl) (fun K hK htab hNc hl => ?_)
  subst hl
  show zG K Z (zΩ Z) (zF K Z (zΩ Z) (ze2 mkI)) 1 6 0 [(0, .ref (Z.2.2.1 + 1)), (1, .int (zi a1)), (2, .int (zi a2)), (3, .int (zi a3)), (4, .int (zi a4)), (5, .int (zi a5)), (6, .ref (Z.2.2.1 + 339))] [] μ (fL_append a1 a2 a3 a4 a5 μ)
  unfold fL_append
  refine g_aload hK 6 rfl dL_append_0 ?_
  refine g_iconst hK dL_append_2 zki0 ?_
  refine g_aload_n hK 0 rfl rfl dL_append_3 ?_
  refine g_iload_n hK 1 rfl rfl dL_append_4 ?_
  refine g_iload_n hK 2 rfl rfl dL_append_5 ?_
  refine g_iload_n hK 3 rfl rfl dL_append_6 ?_
  refine g_iload hK 4 rfl dL_append_7 ?_
  refine g_iload hK 5 rfl dL_append_9 ?_
  refine g_callV0 hK (resC := f5_append a1 a2 a3 a4 a5 μ) (encC := zeX mkI) (rm := rm5_append) (cb := 0) (sb := 0) (rest := [.int (zi 0), .ref (Z.2.2.1 + 339)]) (As := [.int (zi a1), .int (zi a2), .int (zi a3), .int (zi a4), .int (zi a5)]) (b := 1) (n := 5) (c5_append K.2.1 hK.2.2.2.2.2.2.2.2.1 Z a1 a2 a3 a4 a5 μ ha1 ha2 ha3 ha4 ha5) rfl (ci := 5) rfl (by decide) kc_1 q_703 q_704 q_705 q_1 q_706 rfl (by decide +kernel) (by decide) (Nat.le_of_ble_eq_true rfl) (Nat.le_of_ble_eq_true rfl) (Nat.le_of_ble_eq_true rfl) rfl dL_append_11 (fun a ha => ?_)
  cases hf : f5_append a1 a2 a3 a4 a5 μ with
  | none => rw [hf] at ha; cases ha
  | some x =>
    obtain ⟨r, m1⟩ := x
    rw [hf] at ha
    cases r with
    | inr v =>
      cases ha
      refine ⟨(.inr v, m1), rfl, fun w hw hp => ?_, fun E hE => (by cases hE)⟩
      cases hw
      show zG K Z (zΩ Z) (zF K Z (zΩ Z) (ze2 mkI)) 0 0 14 [(0, .ref (Z.2.2.1 + 1)), (1, .int (zi a1)), (2, .int (zi a2)), (3, .int (zi a3)), (4, .int (zi a4)), (5, .int (zi a5)), (6, .ref (Z.2.2.1 + 339))] [.int (zi v), .int (zi 0), .ref (Z.2.2.1 + 339)] m1 (some (0, zsL m1 339 0 v))
      refine g_i2l hK dL_append_14 hp ?_
      rw [← zgd_true (A := some ((0 : Int), zsL m1 339 0 v)) (show zin 0 (zln 339) from by decide +kernel)]
      refine g_last hK (zr_64 hp) kc_339 dL_append_15 (fun _ => ?_)
      refine g_goto hK (tgt := 23) (by decide) dL_append_16 ?_
      refine g_iconst hK dL_append_23 zki0 ?_
      exact g_iret hK zc0 rfl rfl dL_append_24
    | inl E =>
      refine ⟨(.inl E, m1), rfl, fun w hw => (by cases hw), fun E2 hE => ?_⟩
      cases hE
      by_cases e0 : xIS = E
      · subst e0
        rw [zwr_hit (k := 1) (by rw [zwn_hit])] at ha
        cases ha
        refine g_catch hK htab hNc [] (0, 16, 19, 13) [] rfl (fun z hz => nomatch hz) (by decide) (by decide) (by decide) q_702 qn_712 (fun q => ?_)
        refine g_astore hK (lv2 := [(0, .ref (Z.2.2.1 + 1)), (1, .int (zi a1)), (2, .int (zi a2)), (3, .int (zi a3)), (4, .int (zi a4)), (5, .int (zi a5)), (6, .ref (Z.2.2.1 + 339))]) [1, 2, 3, 4, 5, 6, 7] rfl (by decide) dL_append_19 ?_
        refine g_iconst hK dL_append_21 zki1 ?_
        exact g_iret hK zc1 rfl rfl dL_append_22
      rw [zwr_miss (by rw [zwn_miss e0]; rfl)] at ha
      cases ha
set_option maxRecDepth 20000 in
theorem cL_size (l : Launch) (hst : l.stackTraces = false) (Z : zZ) (a1 : Int) (μ : zM) (ha1 : zr a1) : ∀ x, fL_size a1 μ = some x → zCtW l Z yL_size (zwsW yL_size bL_size 4 (some .int) [(0, 9, 12, 19)]) rmL_size [.ref (Z.2.2.1 + 1), .int (zi a1), .ref (Z.2.2.1 + 339)] μ (ze2 mkI x) := by
  intro x h
  refine zCtW.of (enc := ze2 mkI) h (by decide) hst (Nat.le_of_ble_eq_true rfl) (fun K hK htab hNc hl => ?_)
  subst hl
  show zG K Z (zΩ Z) (zF K Z (zΩ Z) (ze2 mkI)) 1 6 0 [(0, .ref (Z.2.2.1 + 1)), (1, .int (zi a1)), (2, .ref (Z.2.2.1 + 339))] [] μ (fL_size a1 μ)
  unfold fL_size
  refine g_aload_n hK 2 rfl rfl dL_size_0 ?_
  refine g_iconst hK dL_size_1 zki0 ?_
  refine g_aload_n hK 0 rfl rfl dL_size_2 ?_
  refine g_iload_n hK 1 rfl rfl dL_size_3 ?_
  refine g_callV0 hK (resC := f5_size a1 μ) (encC := zeX mkI) (rm := rm5_size) (cb := 0) (sb := 0) (rest := [.int (zi 0), .ref (Z.2.2.1 + 339)]) (As := [.int (zi a1)]) (b := 1) (n := 1) (c5_size K.2.1 hK.2.2.2.2.2.2.2.2.1 Z a1 μ ha1) rfl (ci := 5) rfl (by decide) kc_1 q_786 q_787 q_788 q_1 q_789 rfl (by decide +kernel) (by decide) (Nat.le_of_ble_eq_true rfl) (Nat.le_of_ble_eq_true rfl) (Nat.le_of_ble_eq_true rfl) rfl dL_size_4 (fun a ha => ?_)
  cases hf : f5_size a1 μ with
  | none => rw [hf] at ha; cases ha
  | some x =>
    obtain ⟨r, m1⟩ := x
    rw [hf] at ha
    cases r with
    | inr v =>
      cases ha
      refine ⟨(.inr v, m1), rfl, fun w hw hp => ?_, fun E hE => (by cases hE)⟩
      cases hw
      show zG K Z (zΩ Z) (zF K Z (zΩ Z) (ze2 mkI)) 0 0 7 [(0, .ref (Z.2.2.1 + 1)), (1, .int (zi a1)), (2, .ref (Z.2.2.1 + 339))] [.int (zi v), .int (zi 0), .ref (Z.2.2.1 + 339)] m1 (some (0, zsL m1 339 0 v))
      refine g_i2l hK dL_size_7 hp ?_
      rw [← zgd_true (A := some ((0 : Int), zsL m1 339 0 v)) (show zin 0 (zln 339) from by decide +kernel)]
      refine g_last hK (zr_64 hp) kc_339 dL_size_8 (fun _ => ?_)
      refine g_goto hK (tgt := 15) (by decide) dL_size_9 ?_
      refine g_iconst hK dL_size_15 zki0 ?_
      exact g_iret hK zc0 rfl rfl dL_size_16
    | inl E =>
      refine ⟨(.inl E, m1), rfl, fun w hw => (by cases hw), fun E2 hE => ?_⟩
      cases hE
      by_cases e0 : xIA = E
      · subst e0
        rw [zwr_hit (k := 1) (by rw [zwn_hit])] at ha
        cases ha
        refine g_catch hK htab hNc [] (0, 9, 12, 19) [] rfl (fun z hz => nomatch hz) (by decide) (by decide) (by decide) q_785 qn_792 (fun q => ?_)
        refine g_astore_n hK (lv2 := [(0, .ref (Z.2.2.1 + 1)), (1, .int (zi a1)), (2, .ref (Z.2.2.1 + 339))]) [1, 2, 3] rfl rfl (by decide) dL_size_12 ?_
        refine g_iconst hK dL_size_13 zki1 ?_
        exact g_iret hK zc1 rfl rfl dL_size_14
      rw [zwr_miss (by rw [zwn_miss e0]; rfl)] at ha
      cases ha
set_option maxRecDepth 20000 in
theorem cL_snippet (l : Launch) (hst : l.stackTraces = false) (Z : zZ) (a1 : Int) (a2 : Int) (μ : zM) (ha1 : zr a1) (ha2 : zr a2) : ∀ x, fL_snippet a1 a2 μ = some x → zCtW l Z yL_snippet (zwsW yL_snippet bL_snippet 5 (some .int) [(0, 10, 13, 25), (0, 10, 17, 19)]) rmL_snippet [.ref (Z.2.2.1 + 1), .int (zi a1), .int (zi a2), .ref (Z.2.2.1 + 339)] μ (ze2 mkI x) := by
  intro x h
  refine zCtW.of (enc := ze2 mkI) h (by decide) hst (Nat.le_of_ble_eq_true rfl) (fun K hK htab hNc hl => ?_)
  subst hl
  show zG K Z (zΩ Z) (zF K Z (zΩ Z) (ze2 mkI)) 2 12 0 [(0, .ref (Z.2.2.1 + 1)), (1, .int (zi a1)), (2, .int (zi a2)), (3, .ref (Z.2.2.1 + 339))] [] μ (fL_snippet a1 a2 μ)
  unfold fL_snippet
  refine g_aload_n hK 3 rfl rfl dL_snippet_0 ?_
  refine g_iconst hK dL_snippet_1 zki0 ?_
  refine g_aload_n hK 0 rfl rfl dL_snippet_2 ?_
  refine g_iload_n hK 1 rfl rfl dL_snippet_3 ?_
  refine g_iload_n hK 2 rfl rfl dL_snippet_4 ?_
  refine g_callV0 hK (resC := f5_snippet a1 a2 μ) (encC := zeX mkI) (rm := rm5_snippet) (cb := 0) (sb := 0) (rest := [.int (zi 0), .ref (Z.2.2.1 + 339)]) (As := [.int (zi a1), .int (zi a2)]) (b := 1) (n := 2) (c5_snippet K.2.1 hK.2.2.2.2.2.2.2.2.1 Z a1 a2 μ ha1 ha2) rfl (ci := 5) rfl (by decide) kc_1 q_810 q_811 q_812 q_1 q_813 rfl (by decide +kernel) (by decide) (Nat.le_of_ble_eq_true rfl) (Nat.le_of_ble_eq_true rfl) (Nat.le_of_ble_eq_true rfl) rfl dL_snippet_5 (fun a ha => ?_)
  cases hf : f5_snippet a1 a2 μ with
  | none => rw [hf] at ha; cases ha
  | some x =>
    obtain ⟨r, m1⟩ := x
    rw [hf] at ha
    cases r with
    | inr v =>
      cases ha
      refine ⟨(.inr v, m1), rfl, fun w hw hp => ?_, fun E hE => (by cases hE)⟩
      cases hw
      show zG K Z (zΩ Z) (zF K Z (zΩ Z) (ze2 mkI)) 0 0 8 [(0, .ref (Z.2.2.1 + 1)), (1, .int (zi a1)), (2, .int (zi a2)), (3, .ref (Z.2.2.1 + 339))] [.int (zi v), .int (zi 0), .ref (Z.2.2.1 + 339)] m1 (some (0, zsL m1 339 0 v))
      refine g_i2l hK dL_snippet_8 hp ?_
      rw [← zgd_true (A := some ((0 : Int), zsL m1 339 0 v)) (show zin 0 (zln 339) from by decide +kernel)]
      refine g_last hK (zr_64 hp) kc_339 dL_snippet_9 (fun _ => ?_)
      refine g_goto hK (tgt := 21) (by decide) dL_snippet_10 ?_
      refine g_iconst hK dL_snippet_21 zki0 ?_
      exact g_iret hK zc0 rfl rfl dL_snippet_22
    | inl E =>
      refine ⟨(.inl E, m1), rfl, fun w hw => (by cases hw), fun E2 hE => ?_⟩
      cases hE
      by_cases e0 : xIO = E
      · subst e0
        rw [zwr_hit (k := 1) (by rw [zwn_hit])] at ha
        cases ha
        refine g_catch hK htab hNc [] (0, 10, 13, 25) [(0, 10, 17, 19)] rfl (fun z hz => nomatch hz) (by decide) (by decide) (by decide) q_809 qn_820 (fun q => ?_)
        refine g_astore hK (lv2 := [(0, .ref (Z.2.2.1 + 1)), (1, .int (zi a1)), (2, .int (zi a2)), (3, .ref (Z.2.2.1 + 339))]) [1, 2, 3, 4] rfl (by decide) dL_snippet_13 ?_
        refine g_iconst hK dL_snippet_15 zki1 ?_
        exact g_iret hK zc1 rfl rfl dL_snippet_16
      by_cases e1 : xIA = E
      · subst e1
        rw [zwr_hit (k := 2) (by rw [zwn_miss e0, zwn_hit])] at ha
        cases ha
        refine g_catch hK htab hNc [(0, 10, 13, 25)] (0, 10, 17, 19) [] rfl (List.forall_mem_cons.mpr ⟨⟨by decide, xIO, q_809, by decide, fun h => e0 h.symm⟩, fun _ h => nomatch h⟩) (by decide) (by decide) (by decide) q_785 qn_792 (fun q => ?_)
        refine g_astore hK (lv2 := [(0, .ref (Z.2.2.1 + 1)), (1, .int (zi a1)), (2, .int (zi a2)), (3, .ref (Z.2.2.1 + 339))]) [1, 2, 3, 4] rfl (by decide) dL_snippet_17 ?_
        refine g_iconst hK dL_snippet_19 zki2 ?_
        exact g_iret hK zc2 rfl rfl dL_snippet_20
      rw [zwr_miss (by rw [zwn_miss e0, zwn_miss e1]; rfl)] at ha
      cases ha
set_option maxRecDepth 20000 in
theorem cL_letter (l : Launch) (hst : l.stackTraces = false) (Z : zZ) (a1 : Int) (a2 : Int) (μ : zM) (ha1 : zr a1) (ha2 : zr a2) : ∀ x, fL_letter a1 a2 μ = some x → zCtW l Z yL_letter (zwsW yL_letter bL_letter 5 (some .int) [(0, 10, 13, 25)]) rmL_letter [.ref (Z.2.2.1 + 1), .int (zi a1), .int (zi a2), .ref (Z.2.2.1 + 339)] μ (ze2 mkI x) := by
  intro x h
  refine zCtW.of (enc := ze2 mkI) h (by decide) hst (Nat.le_of_ble_eq_true rfl) (fun K hK htab hNc hl => ?_)
  subst hl
  show zG K Z (zΩ Z) (zF K Z (zΩ Z) (ze2 mkI)) 1 6 0 [(0, .ref (Z.2.2.1 + 1)), (1, .int (zi a1)), (2, .int (zi a2)), (3, .ref (Z.2.2.1 + 339))] [] μ (fL_letter a1 a2 μ)
  unfold fL_letter
  refine g_aload_n hK 3 rfl rfl dL_letter_0 ?_
  refine g_iconst hK dL_letter_1 zki0 ?_
  refine g_aload_n hK 0 rfl rfl dL_letter_2 ?_
  refine g_iload_n hK 1 rfl rfl dL_letter_3 ?_
  refine g_iload_n hK 2 rfl rfl dL_letter_4 ?_
  refine g_callV0 hK (resC := f5_letter a1 a2 μ) (encC := zeX mkI) (rm := rm5_letter) (cb := 0) (sb := 0) (rest := [.int (zi 0), .ref (Z.2.2.1 + 339)]) (As := [.int (zi a1), .int (zi a2)]) (b := 1) (n := 2) (c5_letter K.2.1 hK.2.2.2.2.2.2.2.2.1 Z a1 a2 μ ha1 ha2) rfl (ci := 5) rfl (by decide) kc_1 q_852 q_853 q_854 q_1 q_855 rfl (by decide +kernel) (by decide) (Nat.le_of_ble_eq_true rfl) (Nat.le_of_ble_eq_true rfl) (Nat.le_of_ble_eq_true rfl) rfl dL_letter_5 (fun a ha => ?_)
  cases hf : f5_letter a1 a2 μ with
  | none => rw [hf] at ha; cases ha
  | some x =>
    obtain ⟨r, m1⟩ := x
    rw [hf] at ha
    cases r with
    | inr v =>
      cases ha
      refine ⟨(.inr v, m1), rfl, fun w hw hp => ?_, fun E hE => (by cases hE)⟩
      cases hw
      show zG K Z (zΩ Z) (zF K Z (zΩ Z) (ze2 mkI)) 0 0 8 [(0, .ref (Z.2.2.1 + 1)), (1, .int (zi a1)), (2, .int (zi a2)), (3, .ref (Z.2.2.1 + 339))] [.int (zi v), .int (zi 0), .ref (Z.2.2.1 + 339)] m1 (some (0, zsL m1 339 0 v))
      refine g_i2l hK dL_letter_8 hp ?_
      rw [← zgd_true (A := some ((0 : Int), zsL m1 339 0 v)) (show zin 0 (zln 339) from by decide +kernel)]
      refine g_last hK (zr_64 hp) kc_339 dL_letter_9 (fun _ => ?_)
      refine g_goto hK (tgt := 17) (by decide) dL_letter_10 ?_
      refine g_iconst hK dL_letter_17 zki0 ?_
      exact g_iret hK zc0 rfl rfl dL_letter_18
    | inl E =>
      refine ⟨(.inl E, m1), rfl, fun w hw => (by cases hw), fun E2 hE => ?_⟩
      cases hE
      by_cases e0 : xIO = E
      · subst e0
        rw [zwr_hit (k := 1) (by rw [zwn_hit])] at ha
        cases ha
        refine g_catch hK htab hNc [] (0, 10, 13, 25) [] rfl (fun z hz => nomatch hz) (by decide) (by decide) (by decide) q_809 qn_820 (fun q => ?_)
        refine g_astore hK (lv2 := [(0, .ref (Z.2.2.1 + 1)), (1, .int (zi a1)), (2, .int (zi a2)), (3, .ref (Z.2.2.1 + 339))]) [1, 2, 3, 4] rfl (by decide) dL_letter_13 ?_
        refine g_iconst hK dL_letter_15 zki1 ?_
        exact g_iret hK zc1 rfl rfl dL_letter_16
      rw [zwr_miss (by rw [zwn_miss e0]; rfl)] at ha
      cases ha
set_option maxRecDepth 20000 in
theorem cL_depends (l : Launch) (hst : l.stackTraces = false) (Z : zZ) (a1 : Int) (a2 : Int) (μ : zM) (ha1 : zr a1) (ha2 : zr a2) : ∀ x, fL_depends a1 a2 μ = some x → zCtW l Z yL_depends (zwsW yL_depends bL_depends 5 (some .int) [(0, 10, 13, 25)]) rmL_depends [.ref (Z.2.2.1 + 1), .int (zi a1), .int (zi a2), .ref (Z.2.2.1 + 339)] μ (ze2 mkI x) := by
  intro x h
  refine zCtW.of (enc := ze2 mkI) h (by decide) hst (Nat.le_of_ble_eq_true rfl) (fun K hK htab hNc hl => ?_)
  subst hl
  show zG K Z (zΩ Z) (zF K Z (zΩ Z) (ze2 mkI)) 2 12 0 [(0, .ref (Z.2.2.1 + 1)), (1, .int (zi a1)), (2, .int (zi a2)), (3, .ref (Z.2.2.1 + 339))] [] μ (fL_depends a1 a2 μ)
  unfold fL_depends
  refine g_aload_n hK 3 rfl rfl dL_depends_0 ?_
  refine g_iconst hK dL_depends_1 zki0 ?_
  refine g_aload_n hK 0 rfl rfl dL_depends_2 ?_
  refine g_iload_n hK 1 rfl rfl dL_depends_3 ?_
  refine g_iload_n hK 2 rfl rfl dL_depends_4 ?_
  refine g_callV0 hK (resC := f5_depends a1 a2 μ) (encC := zeX mkI) (rm := rm5_depends) (cb := 0) (sb := 0) (rest := [.int (zi 0), .ref (Z.2.2.1 + 339)]) (As := [.int (zi a1), .int (zi a2)]) (b := 1) (n := 2) (c5_depends K.2.1 hK.2.2.2.2.2.2.2.2.1 Z a1 a2 μ ha1 ha2) rfl (ci := 5) rfl (by decide) kc_1 q_859 q_860 q_861 q_1 q_862 rfl (by decide +kernel) (by decide) (Nat.le_of_ble_eq_true rfl) (Nat.le_of_ble_eq_true rfl) (Nat.le_of_ble_eq_true rfl) rfl dL_depends_5 (fun a ha => ?_)
  cases hf : f5_depends a1 a2 μ with
  | none => rw [hf] at ha; cases ha
  | some x =>
    obtain ⟨r, m1⟩ := x
    rw [hf] at ha
    cases r with
    | inr v =>
      cases ha
      refine ⟨(.inr v, m1), rfl, fun w hw hp => ?_, fun E hE => (by cases hE)⟩
      cases hw
      show zG K Z (zΩ Z) (zF K Z (zΩ Z) (ze2 mkI)) 0 0 8 [(0, .ref (Z.2.2.1 + 1)), (1, .int (zi a1)), (2, .int (zi a2)), (3, .ref (Z.2.2.1 + 339))] [.int (zi v), .int (zi 0), .ref (Z.2.2.1 + 339)] m1 (some (0, zsL m1 339 0 v))
      refine g_i2l hK dL_depends_8 hp ?_
      rw [← zgd_true (A := some ((0 : Int), zsL m1 339 0 v)) (show zin 0 (zln 339) from by decide +kernel)]
      refine g_last hK (zr_64 hp) kc_339 dL_depends_9 (fun _ => ?_)
      refine g_goto hK (tgt := 17) (by decide) dL_depends_10 ?_
      refine g_iconst hK dL_depends_17 zki0 ?_
      exact g_iret hK zc0 rfl rfl dL_depends_18
    | inl E =>
      refine ⟨(.inl E, m1), rfl, fun w hw => (by cases hw), fun E2 hE => ?_⟩
      cases hE
      by_cases e0 : xIO = E
      · subst e0
        rw [zwr_hit (k := 1) (by rw [zwn_hit])] at ha
        cases ha
        refine g_catch hK htab hNc [] (0, 10, 13, 25) [] rfl (fun z hz => nomatch hz) (by decide) (by decide) (by decide) q_809 qn_820 (fun q => ?_)
        refine g_astore hK (lv2 := [(0, .ref (Z.2.2.1 + 1)), (1, .int (zi a1)), (2, .int (zi a2)), (3, .ref (Z.2.2.1 + 339))]) [1, 2, 3, 4] rfl (by decide) dL_depends_13 ?_
        refine g_iconst hK dL_depends_15 zki1 ?_
        exact g_iret hK zc1 rfl rfl dL_depends_16
      rw [zwr_miss (by rw [zwn_miss e0]; rfl)] at ha
      cases ha
set_option maxRecDepth 20000 in
theorem cL_document (l : Launch) (hst : l.stackTraces = false) (Z : zZ) (a1 : Int) (μ : zM) (ha1 : zr a1) : ∀ x, fL_document a1 μ = some x → zCtW l Z yL_document (zwsW yL_document bL_document 4 (some .int) [(0, 9, 12, 25)]) rmL_document [.ref (Z.2.2.1 + 1), .int (zi a1), .ref (Z.2.2.1 + 339)] μ (ze2 mkI x) := by
  intro x h
  refine zCtW.of (enc := ze2 mkI) h (by decide) hst (Nat.le_of_ble_eq_true rfl) (fun K hK htab hNc hl => ?_)
  subst hl
  show zG K Z (zΩ Z) (zF K Z (zΩ Z) (ze2 mkI)) 1 6 0 [(0, .ref (Z.2.2.1 + 1)), (1, .int (zi a1)), (2, .ref (Z.2.2.1 + 339))] [] μ (fL_document a1 μ)
  unfold fL_document
  refine g_aload_n hK 2 rfl rfl dL_document_0 ?_
  refine g_iconst hK dL_document_1 zki0 ?_
  refine g_aload_n hK 0 rfl rfl dL_document_2 ?_
  refine g_iload_n hK 1 rfl rfl dL_document_3 ?_
  refine g_callV0 hK (resC := f5_document a1 μ) (encC := zeX mkI) (rm := rm5_document) (cb := 0) (sb := 0) (rest := [.int (zi 0), .ref (Z.2.2.1 + 339)]) (As := [.int (zi a1)]) (b := 1) (n := 1) (c5_document K.2.1 hK.2.2.2.2.2.2.2.2.1 Z a1 μ ha1) rfl (ci := 5) rfl (by decide) kc_1 q_870 q_871 q_872 q_1 q_873 rfl (by decide +kernel) (by decide) (Nat.le_of_ble_eq_true rfl) (Nat.le_of_ble_eq_true rfl) (Nat.le_of_ble_eq_true rfl) rfl dL_document_4 (fun a ha => ?_)
  cases hf : f5_document a1 μ with
  | none => rw [hf] at ha; cases ha
  | some x =>
    obtain ⟨r, m1⟩ := x
    rw [hf] at ha
    cases r with
    | inr v =>
      cases ha
      refine ⟨(.inr v, m1), rfl, fun w hw hp => ?_, fun E hE => (by cases hE)⟩
      cases hw
      show zG K Z (zΩ Z) (zF K Z (zΩ Z) (ze2 mkI)) 0 0 7 [(0, .ref (Z.2.2.1 + 1)), (1, .int (zi a1)), (2, .ref (Z.2.2.1 + 339))] [.int (zi v), .int (zi 0), .ref (Z.2.2.1 + 339)] m1 (some (0, zsL m1 339 0 v))
      refine g_i2l hK dL_document_7 hp ?_
      rw [← zgd_true (A := some ((0 : Int), zsL m1 339 0 v)) (show zin 0 (zln 339) from by decide +kernel)]
      refine g_last hK (zr_64 hp) kc_339 dL_document_8 (fun _ => ?_)
      refine g_goto hK (tgt := 15) (by decide) dL_document_9 ?_
      refine g_iconst hK dL_document_15 zki0 ?_
      exact g_iret hK zc0 rfl rfl dL_document_16
    | inl E =>
      refine ⟨(.inl E, m1), rfl, fun w hw => (by cases hw), fun E2 hE => ?_⟩
      cases hE
      by_cases e0 : xIO = E
      · subst e0
        rw [zwr_hit (k := 1) (by rw [zwn_hit])] at ha
        cases ha
        refine g_catch hK htab hNc [] (0, 9, 12, 25) [] rfl (fun z hz => nomatch hz) (by decide) (by decide) (by decide) q_809 qn_820 (fun q => ?_)
        refine g_astore_n hK (lv2 := [(0, .ref (Z.2.2.1 + 1)), (1, .int (zi a1)), (2, .ref (Z.2.2.1 + 339))]) [1, 2, 3] rfl rfl (by decide) dL_document_12 ?_
        refine g_iconst hK dL_document_13 zki1 ?_
        exact g_iret hK zc1 rfl rfl dL_document_14
      rw [zwr_miss (by rw [zwn_miss e0]; rfl)] at ha
      cases ha
set_option maxRecDepth 20000 in
theorem cL_session (l : Launch) (hst : l.stackTraces = false) (Z : zZ) (a1 : Int) (a2 : Int) (μ : zM) (ha1 : zr a1) (ha2 : zr a2) : ∀ x, fL_session a1 a2 μ = some x → zCtW l Z yL_session (zwsW yL_session bL_session 5 (some .int) [(0, 10, 13, 25), (0, 10, 17, 19)]) rmL_session [.ref (Z.2.2.1 + 1), .int (zi a1), .int (zi a2), .ref (Z.2.2.1 + 339)] μ (ze2 mkI x) := by
  intro x h
  refine zCtW.of (enc := ze2 mkI) h (by decide) hst (Nat.le_of_ble_eq_true rfl) (fun K hK htab hNc hl => ?_)
  subst hl
  show zG K Z (zΩ Z) (zF K Z (zΩ Z) (ze2 mkI)) 1 6 0 [(0, .ref (Z.2.2.1 + 1)), (1, .int (zi a1)), (2, .int (zi a2)), (3, .ref (Z.2.2.1 + 339))] [] μ (fL_session a1 a2 μ)
  unfold fL_session
  refine g_aload_n hK 3 rfl rfl dL_session_0 ?_
  refine g_iconst hK dL_session_1 zki0 ?_
  refine g_aload_n hK 0 rfl rfl dL_session_2 ?_
  refine g_iload_n hK 1 rfl rfl dL_session_3 ?_
  refine g_iload_n hK 2 rfl rfl dL_session_4 ?_
  refine g_callV0 hK (resC := f5_session a1 a2 μ) (encC := zeX mkI) (rm := rm5_session) (cb := 0) (sb := 0) (rest := [.int (zi 0), .ref (Z.2.2.1 + 339)]) (As := [.int (zi a1), .int (zi a2)]) (b := 1) (n := 2) (c5_session K.2.1 hK.2.2.2.2.2.2.2.2.1 Z a1 a2 μ ha1 ha2) rfl (ci := 5) rfl (by decide) kc_1 q_878 q_879 q_880 q_1 q_881 rfl (by decide +kernel) (by decide) (Nat.le_of_ble_eq_true rfl) (Nat.le_of_ble_eq_true rfl) (Nat.le_of_ble_eq_true rfl) rfl dL_session_5 (fun a ha => ?_)
  cases hf : f5_session a1 a2 μ with
  | none => rw [hf] at ha; cases ha
  | some x =>
    obtain ⟨r, m1⟩ := x
    rw [hf] at ha
    cases r with
    | inr v =>
      cases ha
      refine ⟨(.inr v, m1), rfl, fun w hw hp => ?_, fun E hE => (by cases hE)⟩
      cases hw
      show zG K Z (zΩ Z) (zF K Z (zΩ Z) (ze2 mkI)) 0 0 8 [(0, .ref (Z.2.2.1 + 1)), (1, .int (zi a1)), (2, .int (zi a2)), (3, .ref (Z.2.2.1 + 339))] [.int (zi v), .int (zi 0), .ref (Z.2.2.1 + 339)] m1 (some (0, zsL m1 339 0 v))
      refine g_i2l hK dL_session_8 hp ?_
      rw [← zgd_true (A := some ((0 : Int), zsL m1 339 0 v)) (show zin 0 (zln 339) from by decide +kernel)]
      refine g_last hK (zr_64 hp) kc_339 dL_session_9 (fun _ => ?_)
      refine g_goto hK (tgt := 21) (by decide) dL_session_10 ?_
      refine g_iconst hK dL_session_21 zki0 ?_
      exact g_iret hK zc0 rfl rfl dL_session_22
    | inl E =>
      refine ⟨(.inl E, m1), rfl, fun w hw => (by cases hw), fun E2 hE => ?_⟩
      cases hE
      by_cases e0 : xIO = E
      · subst e0
        rw [zwr_hit (k := 1) (by rw [zwn_hit])] at ha
        cases ha
        refine g_catch hK htab hNc [] (0, 10, 13, 25) [(0, 10, 17, 19)] rfl (fun z hz => nomatch hz) (by decide) (by decide) (by decide) q_809 qn_820 (fun q => ?_)
        refine g_astore hK (lv2 := [(0, .ref (Z.2.2.1 + 1)), (1, .int (zi a1)), (2, .int (zi a2)), (3, .ref (Z.2.2.1 + 339))]) [1, 2, 3, 4] rfl (by decide) dL_session_13 ?_
        refine g_iconst hK dL_session_15 zki1 ?_
        exact g_iret hK zc1 rfl rfl dL_session_16
      by_cases e1 : xIA = E
      · subst e1
        rw [zwr_hit (k := 2) (by rw [zwn_miss e0, zwn_hit])] at ha
        cases ha
        refine g_catch hK htab hNc [(0, 10, 13, 25)] (0, 10, 17, 19) [] rfl (List.forall_mem_cons.mpr ⟨⟨by decide, xIO, q_809, by decide, fun h => e0 h.symm⟩, fun _ h => nomatch h⟩) (by decide) (by decide) (by decide) q_785 qn_792 (fun q => ?_)
        refine g_astore hK (lv2 := [(0, .ref (Z.2.2.1 + 1)), (1, .int (zi a1)), (2, .int (zi a2)), (3, .ref (Z.2.2.1 + 339))]) [1, 2, 3, 4] rfl (by decide) dL_session_17 ?_
        refine g_iconst hK dL_session_19 zki2 ?_
        exact g_iret hK zc2 rfl rfl dL_session_20
      rw [zwr_miss (by rw [zwn_miss e0, zwn_miss e1]; rfl)] at ha
      cases ha
set_option maxRecDepth 20000 in
theorem cL_account (l : Launch) (hst : l.stackTraces = false) (Z : zZ) (a1 : Int) (μ : zM) (ha1 : zr a1) : ∀ x, fL_account a1 μ = some x → zCtW l Z yL_account (zwsW yL_account bL_account 4 (some .int) [(0, 9, 12, 19)]) rmL_account [.ref (Z.2.2.1 + 1), .int (zi a1), .ref (Z.2.2.1 + 339)] μ (ze2 mkI x) := by
  intro x h
  refine zCtW.of (enc := ze2 mkI) h (by decide) hst (Nat.le_of_ble_eq_true rfl) (fun K hK htab hNc hl => ?_)
  subst hl
  show zG K Z (zΩ Z) (zF K Z (zΩ Z) (ze2 mkI)) 1 6 0 [(0, .ref (Z.2.2.1 + 1)), (1, .int (zi a1)), (2, .ref (Z.2.2.1 + 339))] [] μ (fL_account a1 μ)
  unfold fL_account
  refine g_aload_n hK 2 rfl rfl dL_account_0 ?_
  refine g_iconst hK dL_account_1 zki0 ?_
  refine g_aload_n hK 0 rfl rfl dL_account_2 ?_
  refine g_iload_n hK 1 rfl rfl dL_account_3 ?_
  refine g_callV0 hK (resC := f5_account a1 μ) (encC := zeX mkI) (rm := rm5_account) (cb := 0) (sb := 0) (rest := [.int (zi 0), .ref (Z.2.2.1 + 339)]) (As := [.int (zi a1)]) (b := 1) (n := 1) (c5_account K.2.1 hK.2.2.2.2.2.2.2.2.1 Z a1 μ ha1) rfl (ci := 5) rfl (by decide) kc_1 q_890 q_891 q_892 q_1 q_893 rfl (by decide +kernel) (by decide) (Nat.le_of_ble_eq_true rfl) (Nat.le_of_ble_eq_true rfl) (Nat.le_of_ble_eq_true rfl) rfl dL_account_4 (fun a ha => ?_)
  cases hf : f5_account a1 μ with
  | none => rw [hf] at ha; cases ha
  | some x =>
    obtain ⟨r, m1⟩ := x
    rw [hf] at ha
    cases r with
    | inr v =>
      cases ha
      refine ⟨(.inr v, m1), rfl, fun w hw hp => ?_, fun E hE => (by cases hE)⟩
      cases hw
      show zG K Z (zΩ Z) (zF K Z (zΩ Z) (ze2 mkI)) 0 0 7 [(0, .ref (Z.2.2.1 + 1)), (1, .int (zi a1)), (2, .ref (Z.2.2.1 + 339))] [.int (zi v), .int (zi 0), .ref (Z.2.2.1 + 339)] m1 (some (0, zsL m1 339 0 v))
      refine g_i2l hK dL_account_7 hp ?_
      rw [← zgd_true (A := some ((0 : Int), zsL m1 339 0 v)) (show zin 0 (zln 339) from by decide +kernel)]
      refine g_last hK (zr_64 hp) kc_339 dL_account_8 (fun _ => ?_)
      refine g_goto hK (tgt := 15) (by decide) dL_account_9 ?_
      refine g_iconst hK dL_account_15 zki0 ?_
      exact g_iret hK zc0 rfl rfl dL_account_16
    | inl E =>
      refine ⟨(.inl E, m1), rfl, fun w hw => (by cases hw), fun E2 hE => ?_⟩
      cases hE
      by_cases e0 : xIA = E
      · subst e0
        rw [zwr_hit (k := 1) (by rw [zwn_hit])] at ha
        cases ha
        refine g_catch hK htab hNc [] (0, 9, 12, 19) [] rfl (fun z hz => nomatch hz) (by decide) (by decide) (by decide) q_785 qn_792 (fun q => ?_)
        refine g_astore_n hK (lv2 := [(0, .ref (Z.2.2.1 + 1)), (1, .int (zi a1)), (2, .ref (Z.2.2.1 + 339))]) [1, 2, 3] rfl rfl (by decide) dL_account_12 ?_
        refine g_iconst hK dL_account_13 zki1 ?_
        exact g_iret hK zc1 rfl rfl dL_account_14
      rw [zwr_miss (by rw [zwn_miss e0]; rfl)] at ha
      cases ha
set_option maxRecDepth 20000 in
theorem cL_field (l : Launch) (hst : l.stackTraces = false) (Z : zZ) (a1 : Int) (a2 : Int) (μ : zM) (ha1 : zr a1) (ha2 : zr a2) : ∀ x, fL_field a1 a2 μ = some x → zCtW l Z yL_field (zwsW yL_field bL_field 5 (some .int) [(0, 10, 13, 25), (0, 10, 17, 19), (0, 10, 21, 13)]) rmL_field [.ref (Z.2.2.1 + 1), .int (zi a1), .int (zi a2), .ref (Z.2.2.1 + 339)] μ (ze2 mkI x) := by
  intro x h
  refine zCtW.of (enc := ze2 mkI) h (by decide) hst (Nat.le_of_ble_eq_true rfl) (fun K hK htab hNc hl => ?_)
  subst hl
  show zG K Z (zΩ Z) (zF K Z (zΩ Z) (ze2 mkI)) 3 18 0 [(0, .ref (Z.2.2.1 + 1)), (1, .int (zi a1)), (2, .int (zi a2)), (3, .ref (Z.2.2.1 + 339))] [] μ (fL_field a1 a2 μ)
  unfold fL_field
  refine g_aload_n hK 3 rfl rfl dL_field_0 ?_
  refine g_iconst hK dL_field_1 zki0 ?_
  refine g_aload_n hK 0 rfl rfl dL_field_2 ?_
  refine g_iload_n hK 1 rfl rfl dL_field_3 ?_
  refine g_iload_n hK 2 rfl rfl dL_field_4 ?_
  refine g_callV0 hK (resC := f5_field a1 a2 μ) (encC := zeX mkI) (rm := rm5_field) (cb := 0) (sb := 0) (rest := [.int (zi 0), .ref (Z.2.2.1 + 339)]) (As := [.int (zi a1), .int (zi a2)]) (b := 1) (n := 2) (c5_field K.2.1 hK.2.2.2.2.2.2.2.2.1 Z a1 a2 μ ha1 ha2) rfl (ci := 5) rfl (by decide) kc_1 q_897 q_898 q_899 q_1 q_900 rfl (by decide +kernel) (by decide) (Nat.le_of_ble_eq_true rfl) (Nat.le_of_ble_eq_true rfl) (Nat.le_of_ble_eq_true rfl) rfl dL_field_5 (fun a ha => ?_)
  cases hf : f5_field a1 a2 μ with
  | none => rw [hf] at ha; cases ha
  | some x =>
    obtain ⟨r, m1⟩ := x
    rw [hf] at ha
    cases r with
    | inr v =>
      cases ha
      refine ⟨(.inr v, m1), rfl, fun w hw hp => ?_, fun E hE => (by cases hE)⟩
      cases hw
      show zG K Z (zΩ Z) (zF K Z (zΩ Z) (ze2 mkI)) 0 0 8 [(0, .ref (Z.2.2.1 + 1)), (1, .int (zi a1)), (2, .int (zi a2)), (3, .ref (Z.2.2.1 + 339))] [.int (zi v), .int (zi 0), .ref (Z.2.2.1 + 339)] m1 (some (0, zsL m1 339 0 v))
      refine g_i2l hK dL_field_8 hp ?_
      rw [← zgd_true (A := some ((0 : Int), zsL m1 339 0 v)) (show zin 0 (zln 339) from by decide +kernel)]
      refine g_last hK (zr_64 hp) kc_339 dL_field_9 (fun _ => ?_)
      refine g_goto hK (tgt := 25) (by decide) dL_field_10 ?_
      refine g_iconst hK dL_field_25 zki0 ?_
      exact g_iret hK zc0 rfl rfl dL_field_26
    | inl E =>
      refine ⟨(.inl E, m1), rfl, fun w hw => (by cases hw), fun E2 hE => ?_⟩
      cases hE
      by_cases e0 : xIO = E
      · subst e0
        rw [zwr_hit (k := 1) (by rw [zwn_hit])] at ha
        cases ha
        refine g_catch hK htab hNc [] (0, 10, 13, 25) [(0, 10, 17, 19), (0, 10, 21, 13)] rfl (fun z hz => nomatch hz) (by decide) (by decide) (by decide) q_809 qn_820 (fun q => ?_)
        refine g_astore hK (lv2 := [(0, .ref (Z.2.2.1 + 1)), (1, .int (zi a1)), (2, .int (zi a2)), (3, .ref (Z.2.2.1 + 339))]) [1, 2, 3, 4] rfl (by decide) dL_field_13 ?_
        refine g_iconst hK dL_field_15 zki1 ?_
        exact g_iret hK zc1 rfl rfl dL_field_16
      by_cases e1 : xIA = E
      · subst e1
        rw [zwr_hit (k := 2) (by rw [zwn_miss e0, zwn_hit])] at ha
        cases ha
        refine g_catch hK htab hNc [(0, 10, 13, 25)] (0, 10, 17, 19) [(0, 10, 21, 13)] rfl (List.forall_mem_cons.mpr ⟨⟨by decide, xIO, q_809, by decide, fun h => e0 h.symm⟩, fun _ h => nomatch h⟩) (by decide) (by decide) (by decide) q_785 qn_792 (fun q => ?_)
        refine g_astore hK (lv2 := [(0, .ref (Z.2.2.1 + 1)), (1, .int (zi a1)), (2, .int (zi a2)), (3, .ref (Z.2.2.1 + 339))]) [1, 2, 3, 4] rfl (by decide) dL_field_17 ?_
        refine g_iconst hK dL_field_19 zki2 ?_
        exact g_iret hK zc2 rfl rfl dL_field_20
      by_cases e2 : xIS = E
      · subst e2
        rw [zwr_hit (k := 3) (by rw [zwn_miss e0, zwn_miss e1, zwn_hit])] at ha
        cases ha
        refine g_catch hK htab hNc [(0, 10, 13, 25), (0, 10, 17, 19)] (0, 10, 21, 13) [] rfl (List.forall_mem_cons.mpr ⟨⟨by decide, xIO, q_809, by decide, fun h => e0 h.symm⟩, List.forall_mem_cons.mpr ⟨⟨by decide, xIA, q_785, by decide, fun h => e1 h.symm⟩, fun _ h => nomatch h⟩⟩) (by decide) (by decide) (by decide) q_702 qn_712 (fun q => ?_)
        refine g_astore hK (lv2 := [(0, .ref (Z.2.2.1 + 1)), (1, .int (zi a1)), (2, .int (zi a2)), (3, .ref (Z.2.2.1 + 339))]) [1, 2, 3, 4] rfl (by decide) dL_field_21 ?_
        refine g_iconst hK dL_field_23 zki3 ?_
        exact g_iret hK zc3 rfl rfl dL_field_24
      rw [zwr_miss (by rw [zwn_miss e0, zwn_miss e1, zwn_miss e2]; rfl)] at ha
      cases ha
set_option maxRecDepth 20000 in
theorem cL_value (l : Launch) (hst : l.stackTraces = false) (Z : zZ) (a1 : Int) (a2 : Int) (μ : zM) (ha1 : zr a1) (ha2 : zr a2) : ∀ x, fL_value a1 a2 μ = some x → zCtW l Z yL_value (zwsW yL_value bL_value 5 (some .int) [(0, 10, 13, 25), (0, 10, 17, 13)]) rmL_value [.ref (Z.2.2.1 + 1), .int (zi a1), .int (zi a2), .ref (Z.2.2.1 + 339)] μ (ze2 mkI x) := by
  intro x h
  refine zCtW.of (enc := ze2 mkI) h (by decide) hst (Nat.le_of_ble_eq_true rfl) (fun K hK htab hNc hl => ?_)
  subst hl
  show zG K Z (zΩ Z) (zF K Z (zΩ Z) (ze2 mkI)) 2 12 0 [(0, .ref (Z.2.2.1 + 1)), (1, .int (zi a1)), (2, .int (zi a2)), (3, .ref (Z.2.2.1 + 339))] [] μ (fL_value a1 a2 μ)
  unfold fL_value
  refine g_aload_n hK 3 rfl rfl dL_value_0 ?_
  refine g_iconst hK dL_value_1 zki0 ?_
  refine g_aload_n hK 0 rfl rfl dL_value_2 ?_
  refine g_iload_n hK 1 rfl rfl dL_value_3 ?_
  refine g_iload_n hK 2 rfl rfl dL_value_4 ?_
  refine g_callV0 hK (resC := f5_value a1 a2 μ) (encC := zeX mkI) (rm := rm5_value) (cb := 0) (sb := 0) (rest := [.int (zi 0), .ref (Z.2.2.1 + 339)]) (As := [.int (zi a1), .int (zi a2)]) (b := 1) (n := 2) (c5_value K.2.1 hK.2.2.2.2.2.2.2.2.1 Z a1 a2 μ ha1 ha2) rfl (ci := 5) rfl (by decide) kc_1 q_919 q_920 q_921 q_1 q_922 rfl (by decide +kernel) (by decide) (Nat.le_of_ble_eq_true rfl) (Nat.le_of_ble_eq_true rfl) (Nat.le_of_ble_eq_true rfl) rfl dL_value_5 (fun a ha => ?_)
  cases hf : f5_value a1 a2 μ with
  | none => rw [hf] at ha; cases ha
  | some x =>
    obtain ⟨r, m1⟩ := x
    rw [hf] at ha
    cases r with
    | inr v =>
      cases ha
      refine ⟨(.inr v, m1), rfl, fun w hw hp => ?_, fun E hE => (by cases hE)⟩
      cases hw
      show zG K Z (zΩ Z) (zF K Z (zΩ Z) (ze2 mkI)) 0 0 8 [(0, .ref (Z.2.2.1 + 1)), (1, .int (zi a1)), (2, .int (zi a2)), (3, .ref (Z.2.2.1 + 339))] [.int (zi v), .int (zi 0), .ref (Z.2.2.1 + 339)] m1 (some (0, zsL m1 339 0 v))
      refine g_i2l hK dL_value_8 hp ?_
      rw [← zgd_true (A := some ((0 : Int), zsL m1 339 0 v)) (show zin 0 (zln 339) from by decide +kernel)]
      refine g_last hK (zr_64 hp) kc_339 dL_value_9 (fun _ => ?_)
      refine g_goto hK (tgt := 21) (by decide) dL_value_10 ?_
      refine g_iconst hK dL_value_21 zki0 ?_
      exact g_iret hK zc0 rfl rfl dL_value_22
    | inl E =>
      refine ⟨(.inl E, m1), rfl, fun w hw => (by cases hw), fun E2 hE => ?_⟩
      cases hE
      by_cases e0 : xIO = E
      · subst e0
        rw [zwr_hit (k := 1) (by rw [zwn_hit])] at ha
        cases ha
        refine g_catch hK htab hNc [] (0, 10, 13, 25) [(0, 10, 17, 13)] rfl (fun z hz => nomatch hz) (by decide) (by decide) (by decide) q_809 qn_820 (fun q => ?_)
        refine g_astore hK (lv2 := [(0, .ref (Z.2.2.1 + 1)), (1, .int (zi a1)), (2, .int (zi a2)), (3, .ref (Z.2.2.1 + 339))]) [1, 2, 3, 4] rfl (by decide) dL_value_13 ?_
        refine g_iconst hK dL_value_15 zki1 ?_
        exact g_iret hK zc1 rfl rfl dL_value_16
      by_cases e1 : xIS = E
      · subst e1
        rw [zwr_hit (k := 2) (by rw [zwn_miss e0, zwn_hit])] at ha
        cases ha
        refine g_catch hK htab hNc [(0, 10, 13, 25)] (0, 10, 17, 13) [] rfl (List.forall_mem_cons.mpr ⟨⟨by decide, xIO, q_809, by decide, fun h => e0 h.symm⟩, fun _ h => nomatch h⟩) (by decide) (by decide) (by decide) q_702 qn_712 (fun q => ?_)
        refine g_astore hK (lv2 := [(0, .ref (Z.2.2.1 + 1)), (1, .int (zi a1)), (2, .int (zi a2)), (3, .ref (Z.2.2.1 + 339))]) [1, 2, 3, 4] rfl (by decide) dL_value_17 ?_
        refine g_iconst hK dL_value_19 zki2 ?_
        exact g_iret hK zc2 rfl rfl dL_value_20
      rw [zwr_miss (by rw [zwn_miss e0, zwn_miss e1]; rfl)] at ha
      cases ha
set_option maxRecDepth 20000 in
theorem cL_occurrence (l : Launch) (hst : l.stackTraces = false) (Z : zZ) (a1 : Int) (a2 : Int) (μ : zM) (ha1 : zr a1) (ha2 : zr a2) : ∀ x, fL_occurrence a1 a2 μ = some x → zCtW l Z yL_occurrence (zwsW yL_occurrence bL_occurrence 5 (some .int) [(0, 10, 13, 13), (0, 10, 17, 25), (0, 10, 21, 19)]) rmL_occurrence [.ref (Z.2.2.1 + 1), .int (zi a1), .int (zi a2), .ref (Z.2.2.1 + 339)] μ (ze2 mkI x) := by
  intro x h
  refine zCtW.of (enc := ze2 mkI) h (by decide) hst (Nat.le_of_ble_eq_true rfl) (fun K hK htab hNc hl => ?_)
  subst hl
  show zG K Z (zΩ Z) (zF K Z (zΩ Z) (ze2 mkI)) 2 12 0 [(0, .ref (Z.2.2.1 + 1)), (1, .int (zi a1)), (2, .int (zi a2)), (3, .ref (Z.2.2.1 + 339))] [] μ (fL_occurrence a1 a2 μ)
  unfold fL_occurrence
  refine g_aload_n hK 3 rfl rfl dL_occurrence_0 ?_
  refine g_iconst hK dL_occurrence_1 zki0 ?_
  refine g_aload_n hK 0 rfl rfl dL_occurrence_2 ?_
  refine g_iload_n hK 1 rfl rfl dL_occurrence_3 ?_
  refine g_iload_n hK 2 rfl rfl dL_occurrence_4 ?_
  refine g_callV0 hK (resC := f5_occurrence a1 a2 μ) (encC := zeX mkI) (rm := rm5_occurrence) (cb := 0) (sb := 0) (rest := [.int (zi 0), .ref (Z.2.2.1 + 339)]) (As := [.int (zi a1), .int (zi a2)]) (b := 1) (n := 2) (c5_occurrence K.2.1 hK.2.2.2.2.2.2.2.2.1 Z a1 a2 μ ha1 ha2) rfl (ci := 5) rfl (by decide) kc_1 q_930 q_931 q_932 q_1 q_933 rfl (by decide +kernel) (by decide) (Nat.le_of_ble_eq_true rfl) (Nat.le_of_ble_eq_true rfl) (Nat.le_of_ble_eq_true rfl) rfl dL_occurrence_5 (fun a ha => ?_)
  cases hf : f5_occurrence a1 a2 μ with
  | none => rw [hf] at ha; cases ha
  | some x =>
    obtain ⟨r, m1⟩ := x
    rw [hf] at ha
    cases r with
    | inr v =>
      cases ha
      refine ⟨(.inr v, m1), rfl, fun w hw hp => ?_, fun E hE => (by cases hE)⟩
      cases hw
      show zG K Z (zΩ Z) (zF K Z (zΩ Z) (ze2 mkI)) 0 0 8 [(0, .ref (Z.2.2.1 + 1)), (1, .int (zi a1)), (2, .int (zi a2)), (3, .ref (Z.2.2.1 + 339))] [.int (zi v), .int (zi 0), .ref (Z.2.2.1 + 339)] m1 (some (0, zsL m1 339 0 v))
      refine g_i2l hK dL_occurrence_8 hp ?_
      rw [← zgd_true (A := some ((0 : Int), zsL m1 339 0 v)) (show zin 0 (zln 339) from by decide +kernel)]
      refine g_last hK (zr_64 hp) kc_339 dL_occurrence_9 (fun _ => ?_)
      refine g_goto hK (tgt := 25) (by decide) dL_occurrence_10 ?_
      refine g_iconst hK dL_occurrence_25 zki0 ?_
      exact g_iret hK zc0 rfl rfl dL_occurrence_26
    | inl E =>
      refine ⟨(.inl E, m1), rfl, fun w hw => (by cases hw), fun E2 hE => ?_⟩
      cases hE
      by_cases e0 : xIS = E
      · subst e0
        rw [zwr_hit (k := 1) (by rw [zwn_hit])] at ha
        cases ha
        refine g_catch hK htab hNc [] (0, 10, 13, 13) [(0, 10, 17, 25), (0, 10, 21, 19)] rfl (fun z hz => nomatch hz) (by decide) (by decide) (by decide) q_702 qn_712 (fun q => ?_)
        refine g_astore hK (lv2 := [(0, .ref (Z.2.2.1 + 1)), (1, .int (zi a1)), (2, .int (zi a2)), (3, .ref (Z.2.2.1 + 339))]) [1, 2, 3, 4] rfl (by decide) dL_occurrence_13 ?_
        refine g_iconst hK dL_occurrence_15 zki1 ?_
        exact g_iret hK zc1 rfl rfl dL_occurrence_16
      by_cases e1 : xIO = E
      · subst e1
        rw [zwr_hit (k := 2) (by rw [zwn_miss e0, zwn_hit])] at ha
        cases ha
        refine g_catch hK htab hNc [(0, 10, 13, 13)] (0, 10, 17, 25) [(0, 10, 21, 19)] rfl (List.forall_mem_cons.mpr ⟨⟨by decide, xIS, q_702, by decide, fun h => e0 h.symm⟩, fun _ h => nomatch h⟩) (by decide) (by decide) (by decide) q_809 qn_820 (fun q => ?_)
        refine g_astore hK (lv2 := [(0, .ref (Z.2.2.1 + 1)), (1, .int (zi a1)), (2, .int (zi a2)), (3, .ref (Z.2.2.1 + 339))]) [1, 2, 3, 4] rfl (by decide) dL_occurrence_17 ?_
        refine g_iconst hK dL_occurrence_19 zki2 ?_
        exact g_iret hK zc2 rfl rfl dL_occurrence_20
      by_cases e2 : xIA = E
      · subst e2
        rw [zwr_hit (k := 3) (by rw [zwn_miss e0, zwn_miss e1, zwn_hit])] at ha
        cases ha
        refine g_catch hK htab hNc [(0, 10, 13, 13), (0, 10, 17, 25)] (0, 10, 21, 19) [] rfl (List.forall_mem_cons.mpr ⟨⟨by decide, xIS, q_702, by decide, fun h => e0 h.symm⟩, List.forall_mem_cons.mpr ⟨⟨by decide, xIO, q_809, by decide, fun h => e1 h.symm⟩, fun _ h => nomatch h⟩⟩) (by decide) (by decide) (by decide) q_785 qn_792 (fun q => ?_)
        refine g_astore hK (lv2 := [(0, .ref (Z.2.2.1 + 1)), (1, .int (zi a1)), (2, .int (zi a2)), (3, .ref (Z.2.2.1 + 339))]) [1, 2, 3, 4] rfl (by decide) dL_occurrence_21 ?_
        refine g_iconst hK dL_occurrence_23 zki3 ?_
        exact g_iret hK zc3 rfl rfl dL_occurrence_24
      rw [zwr_miss (by rw [zwn_miss e0, zwn_miss e1, zwn_miss e2]; rfl)] at ha
      cases ha
set_option maxRecDepth 20000 in
theorem cL_text (l : Launch) (hst : l.stackTraces = false) (Z : zZ) (a1 : Int) (μ : zM) (ha1 : zr a1) : ∀ x, fL_text a1 μ = some x → zCtW l Z yL_text (zwsW yL_text bL_text 4 (some .int) [(0, 9, 12, 13)]) rmL_text [.ref (Z.2.2.1 + 1), .int (zi a1), .ref (Z.2.2.1 + 339)] μ (ze2 mkI x) := by
  intro x h
  refine zCtW.of (enc := ze2 mkI) h (by decide) hst (Nat.le_of_ble_eq_true rfl) (fun K hK htab hNc hl => ?_)
  subst hl
  show zG K Z (zΩ Z) (zF K Z (zΩ Z) (ze2 mkI)) 1 6 0 [(0, .ref (Z.2.2.1 + 1)), (1, .int (zi a1)), (2, .ref (Z.2.2.1 + 339))] [] μ (fL_text a1 μ)
  unfold fL_text
  refine g_aload_n hK 2 rfl rfl dL_text_0 ?_
  refine g_iconst hK dL_text_1 zki0 ?_
  refine g_aload_n hK 0 rfl rfl dL_text_2 ?_
  refine g_iload_n hK 1 rfl rfl dL_text_3 ?_
  refine g_callV0 hK (resC := f5_text a1 μ) (encC := zeX mkI) (rm := rm5_text) (cb := 0) (sb := 0) (rest := [.int (zi 0), .ref (Z.2.2.1 + 339)]) (As := [.int (zi a1)]) (b := 1) (n := 1) (c5_text K.2.1 hK.2.2.2.2.2.2.2.2.1 Z a1 μ ha1) rfl (ci := 5) rfl (by decide) kc_1 q_948 q_949 q_950 q_1 q_951 rfl (by decide +kernel) (by decide) (Nat.le_of_ble_eq_true rfl) (Nat.le_of_ble_eq_true rfl) (Nat.le_of_ble_eq_true rfl) rfl dL_text_4 (fun a ha => ?_)
  cases hf : f5_text a1 μ with
  | none => rw [hf] at ha; cases ha
  | some x =>
    obtain ⟨r, m1⟩ := x
    rw [hf] at ha
    cases r with
    | inr v =>
      cases ha
      refine ⟨(.inr v, m1), rfl, fun w hw hp => ?_, fun E hE => (by cases hE)⟩
      cases hw
      show zG K Z (zΩ Z) (zF K Z (zΩ Z) (ze2 mkI)) 0 0 7 [(0, .ref (Z.2.2.1 + 1)), (1, .int (zi a1)), (2, .ref (Z.2.2.1 + 339))] [.int (zi v), .int (zi 0), .ref (Z.2.2.1 + 339)] m1 (some (0, zsL m1 339 0 v))
      refine g_i2l hK dL_text_7 hp ?_
      rw [← zgd_true (A := some ((0 : Int), zsL m1 339 0 v)) (show zin 0 (zln 339) from by decide +kernel)]
      refine g_last hK (zr_64 hp) kc_339 dL_text_8 (fun _ => ?_)
      refine g_goto hK (tgt := 15) (by decide) dL_text_9 ?_
      refine g_iconst hK dL_text_15 zki0 ?_
      exact g_iret hK zc0 rfl rfl dL_text_16
    | inl E =>
      refine ⟨(.inl E, m1), rfl, fun w hw => (by cases hw), fun E2 hE => ?_⟩
      cases hE
      by_cases e0 : xIS = E
      · subst e0
        rw [zwr_hit (k := 1) (by rw [zwn_hit])] at ha
        cases ha
        refine g_catch hK htab hNc [] (0, 9, 12, 13) [] rfl (fun z hz => nomatch hz) (by decide) (by decide) (by decide) q_702 qn_712 (fun q => ?_)
        refine g_astore_n hK (lv2 := [(0, .ref (Z.2.2.1 + 1)), (1, .int (zi a1)), (2, .ref (Z.2.2.1 + 339))]) [1, 2, 3] rfl rfl (by decide) dL_text_12 ?_
        refine g_iconst hK dL_text_13 zki1 ?_
        exact g_iret hK zc1 rfl rfl dL_text_14
      rw [zwr_miss (by rw [zwn_miss e0]; rfl)] at ha
      cases ha
set_option maxRecDepth 20000 in
theorem cL_orderAt (l : Launch) (hst : l.stackTraces = false) (Z : zZ) (a1 : Int) (μ : zM) (ha1 : zr a1) : ∀ x, fL_orderAt a1 μ = some x → zCtW l Z yL_orderAt (zwsW yL_orderAt bL_orderAt 4 (some .int) [(0, 9, 12, 13)]) rmL_orderAt [.ref (Z.2.2.1 + 1), .int (zi a1), .ref (Z.2.2.1 + 339)] μ (ze2 mkI x) := by
  intro x h
  refine zCtW.of (enc := ze2 mkI) h (by decide) hst (Nat.le_of_ble_eq_true rfl) (fun K hK htab hNc hl => ?_)
  subst hl
  show zG K Z (zΩ Z) (zF K Z (zΩ Z) (ze2 mkI)) 1 6 0 [(0, .ref (Z.2.2.1 + 1)), (1, .int (zi a1)), (2, .ref (Z.2.2.1 + 339))] [] μ (fL_orderAt a1 μ)
  unfold fL_orderAt
  refine g_aload_n hK 2 rfl rfl dL_orderAt_0 ?_
  refine g_iconst hK dL_orderAt_1 zki0 ?_
  refine g_aload_n hK 0 rfl rfl dL_orderAt_2 ?_
  refine g_iload_n hK 1 rfl rfl dL_orderAt_3 ?_
  refine g_callV0 hK (resC := f5_orderAt a1 μ) (encC := zeX mkI) (rm := rm5_orderAt) (cb := 0) (sb := 0) (rest := [.int (zi 0), .ref (Z.2.2.1 + 339)]) (As := [.int (zi a1)]) (b := 1) (n := 1) (c5_orderAt K.2.1 hK.2.2.2.2.2.2.2.2.1 Z a1 μ ha1) rfl (ci := 5) rfl (by decide) kc_1 q_955 q_956 q_957 q_1 q_958 rfl (by decide +kernel) (by decide) (Nat.le_of_ble_eq_true rfl) (Nat.le_of_ble_eq_true rfl) (Nat.le_of_ble_eq_true rfl) rfl dL_orderAt_4 (fun a ha => ?_)
  cases hf : f5_orderAt a1 μ with
  | none => rw [hf] at ha; cases ha
  | some x =>
    obtain ⟨r, m1⟩ := x
    rw [hf] at ha
    cases r with
    | inr v =>
      cases ha
      refine ⟨(.inr v, m1), rfl, fun w hw hp => ?_, fun E hE => (by cases hE)⟩
      cases hw
      show zG K Z (zΩ Z) (zF K Z (zΩ Z) (ze2 mkI)) 0 0 7 [(0, .ref (Z.2.2.1 + 1)), (1, .int (zi a1)), (2, .ref (Z.2.2.1 + 339))] [.int (zi v), .int (zi 0), .ref (Z.2.2.1 + 339)] m1 (some (0, zsL m1 339 0 v))
      refine g_i2l hK dL_orderAt_7 hp ?_
      rw [← zgd_true (A := some ((0 : Int), zsL m1 339 0 v)) (show zin 0 (zln 339) from by decide +kernel)]
      refine g_last hK (zr_64 hp) kc_339 dL_orderAt_8 (fun _ => ?_)
      refine g_goto hK (tgt := 15) (by decide) dL_orderAt_9 ?_
      refine g_iconst hK dL_orderAt_15 zki0 ?_
      exact g_iret hK zc0 rfl rfl dL_orderAt_16
    | inl E =>
      refine ⟨(.inl E, m1), rfl, fun w hw => (by cases hw), fun E2 hE => ?_⟩
      cases hE
      by_cases e0 : xIS = E
      · subst e0
        rw [zwr_hit (k := 1) (by rw [zwn_hit])] at ha
        cases ha
        refine g_catch hK htab hNc [] (0, 9, 12, 13) [] rfl (fun z hz => nomatch hz) (by decide) (by decide) (by decide) q_702 qn_712 (fun q => ?_)
        refine g_astore_n hK (lv2 := [(0, .ref (Z.2.2.1 + 1)), (1, .int (zi a1)), (2, .ref (Z.2.2.1 + 339))]) [1, 2, 3] rfl rfl (by decide) dL_orderAt_12 ?_
        refine g_iconst hK dL_orderAt_13 zki1 ?_
        exact g_iret hK zc1 rfl rfl dL_orderAt_14
      rw [zwr_miss (by rw [zwn_miss e0]; rfl)] at ha
      cases ha
set_option maxRecDepth 20000 in
theorem cL_why (l : Launch) (hst : l.stackTraces = false) (Z : zZ) (a1 : Int) (μ : zM) (ha1 : zr a1) : ∀ x, fL_why a1 μ = some x → zCtW l Z yL_why (zwsW yL_why bL_why 4 (some .int) [(0, 9, 12, 25), (0, 9, 15, 13)]) rmL_why [.ref (Z.2.2.1 + 1), .int (zi a1), .ref (Z.2.2.1 + 339)] μ (ze2 mkI x) := by
  intro x h
  refine zCtW.of (enc := ze2 mkI) h (by decide) hst (Nat.le_of_ble_eq_true rfl) (fun K hK htab hNc hl => ?_)
  subst hl
  show zG K Z (zΩ Z) (zF K Z (zΩ Z) (ze2 mkI)) 2 12 0 [(0, .ref (Z.2.2.1 + 1)), (1, .int (zi a1)), (2, .ref (Z.2.2.1 + 339))] [] μ (fL_why a1 μ)
  unfold fL_why
  refine g_aload_n hK 2 rfl rfl dL_why_0 ?_
  refine g_iconst hK dL_why_1 zki0 ?_
  refine g_aload_n hK 0 rfl rfl dL_why_2 ?_
  refine g_iload_n hK 1 rfl rfl dL_why_3 ?_
  refine g_callV0 hK (resC := f5_why a1 μ) (encC := zeX mkI) (rm := rm5_why) (cb := 0) (sb := 0) (rest := [.int (zi 0), .ref (Z.2.2.1 + 339)]) (As := [.int (zi a1)]) (b := 1) (n := 1) (c5_why K.2.1 hK.2.2.2.2.2.2.2.2.1 Z a1 μ ha1) rfl (ci := 5) rfl (by decide) kc_1 q_962 q_963 q_964 q_1 q_965 rfl (by decide +kernel) (by decide) (Nat.le_of_ble_eq_true rfl) (Nat.le_of_ble_eq_true rfl) (Nat.le_of_ble_eq_true rfl) rfl dL_why_4 (fun a ha => ?_)
  cases hf : f5_why a1 μ with
  | none => rw [hf] at ha; cases ha
  | some x =>
    obtain ⟨r, m1⟩ := x
    rw [hf] at ha
    cases r with
    | inr v =>
      cases ha
      refine ⟨(.inr v, m1), rfl, fun w hw hp => ?_, fun E hE => (by cases hE)⟩
      cases hw
      show zG K Z (zΩ Z) (zF K Z (zΩ Z) (ze2 mkI)) 0 0 7 [(0, .ref (Z.2.2.1 + 1)), (1, .int (zi a1)), (2, .ref (Z.2.2.1 + 339))] [.int (zi v), .int (zi 0), .ref (Z.2.2.1 + 339)] m1 (some (0, zsL m1 339 0 v))
      refine g_i2l hK dL_why_7 hp ?_
      rw [← zgd_true (A := some ((0 : Int), zsL m1 339 0 v)) (show zin 0 (zln 339) from by decide +kernel)]
      refine g_last hK (zr_64 hp) kc_339 dL_why_8 (fun _ => ?_)
      refine g_goto hK (tgt := 18) (by decide) dL_why_9 ?_
      refine g_iconst hK dL_why_18 zki0 ?_
      exact g_iret hK zc0 rfl rfl dL_why_19
    | inl E =>
      refine ⟨(.inl E, m1), rfl, fun w hw => (by cases hw), fun E2 hE => ?_⟩
      cases hE
      by_cases e0 : xIO = E
      · subst e0
        rw [zwr_hit (k := 1) (by rw [zwn_hit])] at ha
        cases ha
        refine g_catch hK htab hNc [] (0, 9, 12, 25) [(0, 9, 15, 13)] rfl (fun z hz => nomatch hz) (by decide) (by decide) (by decide) q_809 qn_820 (fun q => ?_)
        refine g_astore_n hK (lv2 := [(0, .ref (Z.2.2.1 + 1)), (1, .int (zi a1)), (2, .ref (Z.2.2.1 + 339))]) [1, 2, 3] rfl rfl (by decide) dL_why_12 ?_
        refine g_iconst hK dL_why_13 zki1 ?_
        exact g_iret hK zc1 rfl rfl dL_why_14
      by_cases e1 : xIS = E
      · subst e1
        rw [zwr_hit (k := 2) (by rw [zwn_miss e0, zwn_hit])] at ha
        cases ha
        refine g_catch hK htab hNc [(0, 9, 12, 25)] (0, 9, 15, 13) [] rfl (List.forall_mem_cons.mpr ⟨⟨by decide, xIO, q_809, by decide, fun h => e0 h.symm⟩, fun _ h => nomatch h⟩) (by decide) (by decide) (by decide) q_702 qn_712 (fun q => ?_)
        refine g_astore_n hK (lv2 := [(0, .ref (Z.2.2.1 + 1)), (1, .int (zi a1)), (2, .ref (Z.2.2.1 + 339))]) [1, 2, 3] rfl rfl (by decide) dL_why_15 ?_
        refine g_iconst hK dL_why_16 zki2 ?_
        exact g_iret hK zc2 rfl rfl dL_why_17
      rw [zwr_miss (by rw [zwn_miss e0, zwn_miss e1]; rfl)] at ha
      cases ha
set_option maxRecDepth 20000 in
theorem cL_yielded (l : Launch) (hst : l.stackTraces = false) (Z : zZ) (μ : zM) : ∀ x, fL_yielded μ = some x → zCtW l Z yL_yielded (zwsW yL_yielded bL_yielded 3 (some .int) [(0, 8, 11, 13)]) rmL_yielded [.ref (Z.2.2.1 + 1), .ref (Z.2.2.1 + 339)] μ (ze2 mkI x) := by
  intro x h
  refine zCtW.of (enc := ze2 mkI) h (by decide) hst (Nat.le_of_ble_eq_true rfl) (fun K hK htab hNc hl => ?_)
  subst hl
  show zG K Z (zΩ Z) (zF K Z (zΩ Z) (ze2 mkI)) 1 6 0 [(0, .ref (Z.2.2.1 + 1)), (1, .ref (Z.2.2.1 + 339))] [] μ (fL_yielded μ)
  unfold fL_yielded
  refine g_aload_n hK 1 rfl rfl dL_yielded_0 ?_
  refine g_iconst hK dL_yielded_1 zki0 ?_
  refine g_aload_n hK 0 rfl rfl dL_yielded_2 ?_
  refine g_callV0 hK (resC := f5_yielded μ) (encC := zeX mkI) (rm := rm5_yielded) (cb := 0) (sb := 0) (rest := [.int (zi 0), .ref (Z.2.2.1 + 339)]) (As := []) (b := 1) (n := 0) (c5_yielded K.2.1 hK.2.2.2.2.2.2.2.2.1 Z μ ) rfl (ci := 5) rfl (by decide) kc_1 q_973 q_974 q_975 q_1 q_976 rfl (by decide +kernel) (by decide) (Nat.le_of_ble_eq_true rfl) (Nat.le_of_ble_eq_true rfl) (Nat.le_of_ble_eq_true rfl) rfl dL_yielded_3 (fun a ha => ?_)
  cases hf : f5_yielded μ with
  | none => rw [hf] at ha; cases ha
  | some x =>
    obtain ⟨r, m1⟩ := x
    rw [hf] at ha
    cases r with
    | inr v =>
      cases ha
      refine ⟨(.inr v, m1), rfl, fun w hw hp => ?_, fun E hE => (by cases hE)⟩
      cases hw
      show zG K Z (zΩ Z) (zF K Z (zΩ Z) (ze2 mkI)) 0 0 6 [(0, .ref (Z.2.2.1 + 1)), (1, .ref (Z.2.2.1 + 339))] [.int (zi v), .int (zi 0), .ref (Z.2.2.1 + 339)] m1 (some (0, zsL m1 339 0 v))
      refine g_i2l hK dL_yielded_6 hp ?_
      rw [← zgd_true (A := some ((0 : Int), zsL m1 339 0 v)) (show zin 0 (zln 339) from by decide +kernel)]
      refine g_last hK (zr_64 hp) kc_339 dL_yielded_7 (fun _ => ?_)
      refine g_goto hK (tgt := 14) (by decide) dL_yielded_8 ?_
      refine g_iconst hK dL_yielded_14 zki0 ?_
      exact g_iret hK zc0 rfl rfl dL_yielded_15
    | inl E =>
      refine ⟨(.inl E, m1), rfl, fun w hw => (by cases hw), fun E2 hE => ?_⟩
      cases hE
      by_cases e0 : xIS = E
      · subst e0
        rw [zwr_hit (k := 1) (by rw [zwn_hit])] at ha
        cases ha
        refine g_catch hK htab hNc [] (0, 8, 11, 13) [] rfl (fun z hz => nomatch hz) (by decide) (by decide) (by decide) q_702 qn_712 (fun q => ?_)
        refine g_astore_n hK (lv2 := [(0, .ref (Z.2.2.1 + 1)), (1, .ref (Z.2.2.1 + 339))]) [1, 2] rfl rfl (by decide) dL_yielded_11 ?_
        refine g_iconst hK dL_yielded_12 zki1 ?_
        exact g_iret hK zc1 rfl rfl dL_yielded_13
      rw [zwr_miss (by rw [zwn_miss e0]; rfl)] at ha
      cases ha
set_option maxRecDepth 20000 in
theorem cL_mirrored (l : Launch) (hst : l.stackTraces = false) (Z : zZ) (μ : zM) : ∀ x, fL_mirrored μ = some x → zCtW l Z yL_mirrored (zwsW yL_mirrored bL_mirrored 3 (some .int) [(0, 8, 11, 13)]) rmL_mirrored [.ref (Z.2.2.1 + 1), .ref (Z.2.2.1 + 339)] μ (ze2 mkI x) := by
  intro x h
  refine zCtW.of (enc := ze2 mkI) h (by decide) hst (Nat.le_of_ble_eq_true rfl) (fun K hK htab hNc hl => ?_)
  subst hl
  show zG K Z (zΩ Z) (zF K Z (zΩ Z) (ze2 mkI)) 1 6 0 [(0, .ref (Z.2.2.1 + 1)), (1, .ref (Z.2.2.1 + 339))] [] μ (fL_mirrored μ)
  unfold fL_mirrored
  refine g_aload_n hK 1 rfl rfl dL_mirrored_0 ?_
  refine g_iconst hK dL_mirrored_1 zki0 ?_
  refine g_aload_n hK 0 rfl rfl dL_mirrored_2 ?_
  refine g_callV0 hK (resC := f5_mirrored μ) (encC := zeX mkI) (rm := rm5_mirrored) (cb := 0) (sb := 0) (rest := [.int (zi 0), .ref (Z.2.2.1 + 339)]) (As := []) (b := 1) (n := 0) (c5_mirrored K.2.1 hK.2.2.2.2.2.2.2.2.1 Z μ ) rfl (ci := 5) rfl (by decide) kc_1 q_984 q_985 q_986 q_1 q_987 rfl (by decide +kernel) (by decide) (Nat.le_of_ble_eq_true rfl) (Nat.le_of_ble_eq_true rfl) (Nat.le_of_ble_eq_true rfl) rfl dL_mirrored_3 (fun a ha => ?_)
  cases hf : f5_mirrored μ with
  | none => rw [hf] at ha; cases ha
  | some x =>
    obtain ⟨r, m1⟩ := x
    rw [hf] at ha
    cases r with
    | inr v =>
      cases ha
      refine ⟨(.inr v, m1), rfl, fun w hw hp => ?_, fun E hE => (by cases hE)⟩
      cases hw
      show zG K Z (zΩ Z) (zF K Z (zΩ Z) (ze2 mkI)) 0 0 6 [(0, .ref (Z.2.2.1 + 1)), (1, .ref (Z.2.2.1 + 339))] [.int (zi v), .int (zi 0), .ref (Z.2.2.1 + 339)] m1 (some (0, zsL m1 339 0 v))
      refine g_i2l hK dL_mirrored_6 hp ?_
      rw [← zgd_true (A := some ((0 : Int), zsL m1 339 0 v)) (show zin 0 (zln 339) from by decide +kernel)]
      refine g_last hK (zr_64 hp) kc_339 dL_mirrored_7 (fun _ => ?_)
      refine g_goto hK (tgt := 14) (by decide) dL_mirrored_8 ?_
      refine g_iconst hK dL_mirrored_14 zki0 ?_
      exact g_iret hK zc0 rfl rfl dL_mirrored_15
    | inl E =>
      refine ⟨(.inl E, m1), rfl, fun w hw => (by cases hw), fun E2 hE => ?_⟩
      cases hE
      by_cases e0 : xIS = E
      · subst e0
        rw [zwr_hit (k := 1) (by rw [zwn_hit])] at ha
        cases ha
        refine g_catch hK htab hNc [] (0, 8, 11, 13) [] rfl (fun z hz => nomatch hz) (by decide) (by decide) (by decide) q_702 qn_712 (fun q => ?_)
        refine g_astore_n hK (lv2 := [(0, .ref (Z.2.2.1 + 1)), (1, .ref (Z.2.2.1 + 339))]) [1, 2] rfl rfl (by decide) dL_mirrored_11 ?_
        refine g_iconst hK dL_mirrored_12 zki1 ?_
        exact g_iret hK zc1 rfl rfl dL_mirrored_13
      rw [zwr_miss (by rw [zwn_miss e0]; rfl)] at ha
      cases ha
set_option maxRecDepth 20000 in
theorem cL_longest (l : Launch) (hst : l.stackTraces = false) (Z : zZ) (μ : zM) : ∀ x, fL_longest μ = some x → zCtW l Z yL_longest (zwsW yL_longest bL_longest 3 (some .int) [(0, 8, 11, 13)]) rmL_longest [.ref (Z.2.2.1 + 1), .ref (Z.2.2.1 + 339)] μ (ze2 mkI x) := by
  intro x h
  refine zCtW.of (enc := ze2 mkI) h (by decide) hst (Nat.le_of_ble_eq_true rfl) (fun K hK htab hNc hl => ?_)
  subst hl
  show zG K Z (zΩ Z) (zF K Z (zΩ Z) (ze2 mkI)) 1 6 0 [(0, .ref (Z.2.2.1 + 1)), (1, .ref (Z.2.2.1 + 339))] [] μ (fL_longest μ)
  unfold fL_longest
  refine g_aload_n hK 1 rfl rfl dL_longest_0 ?_
  refine g_iconst hK dL_longest_1 zki0 ?_
  refine g_aload_n hK 0 rfl rfl dL_longest_2 ?_
  refine g_callV0 hK (resC := f5_longest μ) (encC := zeX mkI) (rm := rm5_longest) (cb := 0) (sb := 0) (rest := [.int (zi 0), .ref (Z.2.2.1 + 339)]) (As := []) (b := 1) (n := 0) (c5_longest K.2.1 hK.2.2.2.2.2.2.2.2.1 Z μ ) rfl (ci := 5) rfl (by decide) kc_1 q_995 q_996 q_997 q_1 q_998 rfl (by decide +kernel) (by decide) (Nat.le_of_ble_eq_true rfl) (Nat.le_of_ble_eq_true rfl) (Nat.le_of_ble_eq_true rfl) rfl dL_longest_3 (fun a ha => ?_)
  cases hf : f5_longest μ with
  | none => rw [hf] at ha; cases ha
  | some x =>
    obtain ⟨r, m1⟩ := x
    rw [hf] at ha
    cases r with
    | inr v =>
      cases ha
      refine ⟨(.inr v, m1), rfl, fun w hw hp => ?_, fun E hE => (by cases hE)⟩
      cases hw
      show zG K Z (zΩ Z) (zF K Z (zΩ Z) (ze2 mkI)) 0 0 6 [(0, .ref (Z.2.2.1 + 1)), (1, .ref (Z.2.2.1 + 339))] [.int (zi v), .int (zi 0), .ref (Z.2.2.1 + 339)] m1 (some (0, zsL m1 339 0 v))
      refine g_i2l hK dL_longest_6 hp ?_
      rw [← zgd_true (A := some ((0 : Int), zsL m1 339 0 v)) (show zin 0 (zln 339) from by decide +kernel)]
      refine g_last hK (zr_64 hp) kc_339 dL_longest_7 (fun _ => ?_)
      refine g_goto hK (tgt := 14) (by decide) dL_longest_8 ?_
      refine g_iconst hK dL_longest_14 zki0 ?_
      exact g_iret hK zc0 rfl rfl dL_longest_15
    | inl E =>
      refine ⟨(.inl E, m1), rfl, fun w hw => (by cases hw), fun E2 hE => ?_⟩
      cases hE
      by_cases e0 : xIS = E
      · subst e0
        rw [zwr_hit (k := 1) (by rw [zwn_hit])] at ha
        cases ha
        refine g_catch hK htab hNc [] (0, 8, 11, 13) [] rfl (fun z hz => nomatch hz) (by decide) (by decide) (by decide) q_702 qn_712 (fun q => ?_)
        refine g_astore_n hK (lv2 := [(0, .ref (Z.2.2.1 + 1)), (1, .ref (Z.2.2.1 + 339))]) [1, 2] rfl rfl (by decide) dL_longest_11 ?_
        refine g_iconst hK dL_longest_12 zki1 ?_
        exact g_iret hK zc1 rfl rfl dL_longest_13
      rw [zwr_miss (by rw [zwn_miss e0]; rfl)] at ha
      cases ha
set_option maxRecDepth 20000 in
theorem cL_untouched (l : Launch) (hst : l.stackTraces = false) (Z : zZ) (μ : zM) : ∀ x, fL_untouched μ = some x → zCtW l Z yL_untouched (zwsW yL_untouched bL_untouched 3 (some .int) [(0, 8, 11, 13)]) rmL_untouched [.ref (Z.2.2.1 + 1), .ref (Z.2.2.1 + 340)] μ (ze2 mkI x) := by
  intro x h
  refine zCtW.of (enc := ze2 mkI) h (by decide) hst (Nat.le_of_ble_eq_true rfl) (fun K hK htab hNc hl => ?_)
  subst hl
  show zG K Z (zΩ Z) (zF K Z (zΩ Z) (ze2 mkI)) 1 6 0 [(0, .ref (Z.2.2.1 + 1)), (1, .ref (Z.2.2.1 + 340))] [] μ (fL_untouched μ)
  unfold fL_untouched
  refine g_aload_n hK 1 rfl rfl dL_untouched_0 ?_
  refine g_iconst hK dL_untouched_1 zki0 ?_
  refine g_aload_n hK 0 rfl rfl dL_untouched_2 ?_
  refine g_callV0 hK (resC := f5_untouched μ) (encC := zeX mkF) (rm := rm5_untouched) (cb := 0) (sb := 0) (rest := [.int (zi 0), .ref (Z.2.2.1 + 340)]) (As := []) (b := 1) (n := 0) (c5_untouched K.2.1 hK.2.2.2.2.2.2.2.2.1 Z μ ) rfl (ci := 5) rfl (by decide) kc_1 q_1006 q_1007 q_1008 q_1 q_1009 rfl (by decide +kernel) (by decide) (Nat.le_of_ble_eq_true rfl) (Nat.le_of_ble_eq_true rfl) (Nat.le_of_ble_eq_true rfl) rfl dL_untouched_3 (fun a ha => ?_)
  cases hf : f5_untouched μ with
  | none => rw [hf] at ha; cases ha
  | some x =>
    obtain ⟨r, m1⟩ := x
    rw [hf] at ha
    cases r with
    | inr v =>
      obtain ⟨hn, ha⟩ := zgd_some ha
      cases ha
      refine ⟨(.inr v, m1), rfl, fun w hw hp => ?_, fun E hE => (by cases hE)⟩
      cases hw
      show zG K Z (zΩ Z) (zF K Z (zΩ Z) (ze2 mkI)) 0 0 6 [(0, .ref (Z.2.2.1 + 1)), (1, .ref (Z.2.2.1 + 340))] [.float v, .int (zi 0), .ref (Z.2.2.1 + 340)] m1 (some (0, zsD m1 340 0 (FP.f2d v)))
      refine g_f2d hK dL_untouched_6 hn ?_
      rw [← zgd_true (A := some ((0 : Int), zsD m1 340 0 (FP.f2d v))) (show zin 0 (zln 340) from by decide +kernel)]
      refine g_dast hK kc_340 dL_untouched_7 (fun _ => ?_)
      refine g_goto hK (tgt := 14) (by decide) dL_untouched_8 ?_
      refine g_iconst hK dL_untouched_14 zki0 ?_
      exact g_iret hK zc0 rfl rfl dL_untouched_15
    | inl E =>
      refine ⟨(.inl E, m1), rfl, fun w hw => (by cases hw), fun E2 hE => ?_⟩
      cases hE
      by_cases e0 : xIS = E
      · subst e0
        rw [zwr_hit (k := 1) (by rw [zwn_hit])] at ha
        cases ha
        refine g_catch hK htab hNc [] (0, 8, 11, 13) [] rfl (fun z hz => nomatch hz) (by decide) (by decide) (by decide) q_702 qn_712 (fun q => ?_)
        refine g_astore_n hK (lv2 := [(0, .ref (Z.2.2.1 + 1)), (1, .ref (Z.2.2.1 + 340))]) [1, 2] rfl rfl (by decide) dL_untouched_11 ?_
        refine g_iconst hK dL_untouched_12 zki1 ?_
        exact g_iret hK zc1 rfl rfl dL_untouched_13
      rw [zwr_miss (by rw [zwn_miss e0]; rfl)] at ha
      cases ha
set_option maxRecDepth 20000 in
theorem cL_meanLength (l : Launch) (hst : l.stackTraces = false) (Z : zZ) (μ : zM) : ∀ x, fL_meanLength μ = some x → zCtW l Z yL_meanLength (zwsW yL_meanLength bL_meanLength 3 (some .int) [(0, 7, 10, 13)]) rmL_meanLength [.ref (Z.2.2.1 + 1), .ref (Z.2.2.1 + 340)] μ (ze2 mkI x) := by
  intro x h
  refine zCtW.of (enc := ze2 mkI) h (by decide) hst (Nat.le_of_ble_eq_true rfl) (fun K hK htab hNc hl => ?_)
  subst hl
  show zG K Z (zΩ Z) (zF K Z (zΩ Z) (ze2 mkI)) 1 6 0 [(0, .ref (Z.2.2.1 + 1)), (1, .ref (Z.2.2.1 + 340))] [] μ (fL_meanLength μ)
  unfold fL_meanLength
  refine g_aload_n hK 1 rfl rfl dL_meanLength_0 ?_
  refine g_iconst hK dL_meanLength_1 zki0 ?_
  refine g_aload_n hK 0 rfl rfl dL_meanLength_2 ?_
  refine g_callV0 hK (resC := f5_meanLength μ) (encC := zeX mkD) (rm := rm5_meanLength) (cb := 0) (sb := 0) (rest := [.int (zi 0), .ref (Z.2.2.1 + 340)]) (As := []) (b := 1) (n := 0) (c5_meanLength K.2.1 hK.2.2.2.2.2.2.2.2.1 Z μ ) rfl (ci := 5) rfl (by decide) kc_1 q_1014 q_1015 q_1016 q_1 q_1017 rfl (by decide +kernel) (by decide) (Nat.le_of_ble_eq_true rfl) (Nat.le_of_ble_eq_true rfl) (Nat.le_of_ble_eq_true rfl) rfl dL_meanLength_3 (fun a ha => ?_)
  cases hf : f5_meanLength μ with
  | none => rw [hf] at ha; cases ha
  | some x =>
    obtain ⟨r, m1⟩ := x
    rw [hf] at ha
    cases r with
    | inr v =>
      cases ha
      refine ⟨(.inr v, m1), rfl, fun w hw hp => ?_, fun E hE => (by cases hE)⟩
      cases hw
      show zG K Z (zΩ Z) (zF K Z (zΩ Z) (ze2 mkI)) 0 0 6 [(0, .ref (Z.2.2.1 + 1)), (1, .ref (Z.2.2.1 + 340))] [.double v, .int (zi 0), .ref (Z.2.2.1 + 340)] m1 (some (0, zsD m1 340 0 v))
      rw [← zgd_true (A := some ((0 : Int), zsD m1 340 0 v)) (show zin 0 (zln 340) from by decide +kernel)]
      refine g_dast hK kc_340 dL_meanLength_6 (fun _ => ?_)
      refine g_goto hK (tgt := 13) (by decide) dL_meanLength_7 ?_
      refine g_iconst hK dL_meanLength_13 zki0 ?_
      exact g_iret hK zc0 rfl rfl dL_meanLength_14
    | inl E =>
      refine ⟨(.inl E, m1), rfl, fun w hw => (by cases hw), fun E2 hE => ?_⟩
      cases hE
      by_cases e0 : xIS = E
      · subst e0
        rw [zwr_hit (k := 1) (by rw [zwn_hit])] at ha
        cases ha
        refine g_catch hK htab hNc [] (0, 7, 10, 13) [] rfl (fun z hz => nomatch hz) (by decide) (by decide) (by decide) q_702 qn_712 (fun q => ?_)
        refine g_astore_n hK (lv2 := [(0, .ref (Z.2.2.1 + 1)), (1, .ref (Z.2.2.1 + 340))]) [1, 2] rfl rfl (by decide) dL_meanLength_10 ?_
        refine g_iconst hK dL_meanLength_11 zki1 ?_
        exact g_iret hK zc1 rfl rfl dL_meanLength_12
      rw [zwr_miss (by rw [zwn_miss e0]; rfl)] at ha
      cases ha
set_option maxRecDepth 20000 in
theorem cL_lengthIf (l : Launch) (hst : l.stackTraces = false) (Z : zZ) (a1 : Int) (μ : zM) (ha1 : zr a1) : ∀ x, fL_lengthIf a1 μ = some x → zCtW l Z yL_lengthIf (zwsW yL_lengthIf bL_lengthIf 4 (some .int) [(0, 9, 12, 19), (0, 9, 15, 13)]) rmL_lengthIf [.ref (Z.2.2.1 + 1), .int (zi a1), .ref (Z.2.2.1 + 339)] μ (ze2 mkI x) := by
  intro x h
  refine zCtW.of (enc := ze2 mkI) h (by decide) hst (Nat.le_of_ble_eq_true rfl) (fun K hK htab hNc hl => ?_)
  subst hl
  show zG K Z (zΩ Z) (zF K Z (zΩ Z) (ze2 mkI)) 2 12 0 [(0, .ref (Z.2.2.1 + 1)), (1, .int (zi a1)), (2, .ref (Z.2.2.1 + 339))] [] μ (fL_lengthIf a1 μ)
  unfold fL_lengthIf
  refine g_aload_n hK 2 rfl rfl dL_lengthIf_0 ?_
  refine g_iconst hK dL_lengthIf_1 zki0 ?_
  refine g_aload_n hK 0 rfl rfl dL_lengthIf_2 ?_
  refine g_iload_n hK 1 rfl rfl dL_lengthIf_3 ?_
  refine g_callV0 hK (resC := f5_lengthIf a1 μ) (encC := zeX mkI) (rm := rm5_lengthIf) (cb := 0) (sb := 0) (rest := [.int (zi 0), .ref (Z.2.2.1 + 339)]) (As := [.int (zi a1)]) (b := 1) (n := 1) (c5_lengthIf K.2.1 hK.2.2.2.2.2.2.2.2.1 Z a1 μ ha1) rfl (ci := 5) rfl (by decide) kc_1 q_1025 q_1026 q_1027 q_1 q_1028 rfl (by decide +kernel) (by decide) (Nat.le_of_ble_eq_true rfl) (Nat.le_of_ble_eq_true rfl) (Nat.le_of_ble_eq_true rfl) rfl dL_lengthIf_4 (fun a ha => ?_)
  cases hf : f5_lengthIf a1 μ with
  | none => rw [hf] at ha; cases ha
  | some x =>
    obtain ⟨r, m1⟩ := x
    rw [hf] at ha
    cases r with
    | inr v =>
      cases ha
      refine ⟨(.inr v, m1), rfl, fun w hw hp => ?_, fun E hE => (by cases hE)⟩
      cases hw
      show zG K Z (zΩ Z) (zF K Z (zΩ Z) (ze2 mkI)) 0 0 7 [(0, .ref (Z.2.2.1 + 1)), (1, .int (zi a1)), (2, .ref (Z.2.2.1 + 339))] [.int (zi v), .int (zi 0), .ref (Z.2.2.1 + 339)] m1 (some (0, zsL m1 339 0 v))
      refine g_i2l hK dL_lengthIf_7 hp ?_
      rw [← zgd_true (A := some ((0 : Int), zsL m1 339 0 v)) (show zin 0 (zln 339) from by decide +kernel)]
      refine g_last hK (zr_64 hp) kc_339 dL_lengthIf_8 (fun _ => ?_)
      refine g_goto hK (tgt := 18) (by decide) dL_lengthIf_9 ?_
      refine g_iconst hK dL_lengthIf_18 zki0 ?_
      exact g_iret hK zc0 rfl rfl dL_lengthIf_19
    | inl E =>
      refine ⟨(.inl E, m1), rfl, fun w hw => (by cases hw), fun E2 hE => ?_⟩
      cases hE
      by_cases e0 : xIA = E
      · subst e0
        rw [zwr_hit (k := 1) (by rw [zwn_hit])] at ha
        cases ha
        refine g_catch hK htab hNc [] (0, 9, 12, 19) [(0, 9, 15, 13)] rfl (fun z hz => nomatch hz) (by decide) (by decide) (by decide) q_785 qn_792 (fun q => ?_)
        refine g_astore_n hK (lv2 := [(0, .ref (Z.2.2.1 + 1)), (1, .int (zi a1)), (2, .ref (Z.2.2.1 + 339))]) [1, 2, 3] rfl rfl (by decide) dL_lengthIf_12 ?_
        refine g_iconst hK dL_lengthIf_13 zki1 ?_
        exact g_iret hK zc1 rfl rfl dL_lengthIf_14
      by_cases e1 : xIS = E
      · subst e1
        rw [zwr_hit (k := 2) (by rw [zwn_miss e0, zwn_hit])] at ha
        cases ha
        refine g_catch hK htab hNc [(0, 9, 12, 19)] (0, 9, 15, 13) [] rfl (List.forall_mem_cons.mpr ⟨⟨by decide, xIA, q_785, by decide, fun h => e0 h.symm⟩, fun _ h => nomatch h⟩) (by decide) (by decide) (by decide) q_702 qn_712 (fun q => ?_)
        refine g_astore_n hK (lv2 := [(0, .ref (Z.2.2.1 + 1)), (1, .int (zi a1)), (2, .ref (Z.2.2.1 + 339))]) [1, 2, 3] rfl rfl (by decide) dL_lengthIf_15 ?_
        refine g_iconst hK dL_lengthIf_16 zki2 ?_
        exact g_iret hK zc2 rfl rfl dL_lengthIf_17
      rw [zwr_miss (by rw [zwn_miss e0, zwn_miss e1]; rfl)] at ha
      cases ha
set_option maxRecDepth 20000 in
theorem cL_wouldHide (l : Launch) (hst : l.stackTraces = false) (Z : zZ) (a1 : Int) (μ : zM) (ha1 : zr a1) : ∀ x, fL_wouldHide a1 μ = some x → zCtW l Z yL_wouldHide (zwsW yL_wouldHide bL_wouldHide 4 (some .int) [(0, 9, 12, 25), (0, 9, 15, 13)]) rmL_wouldHide [.ref (Z.2.2.1 + 1), .int (zi a1), .ref (Z.2.2.1 + 339)] μ (ze2 mkI x) := by
  intro x h
  refine zCtW.of (enc := ze2 mkI) h (by decide) hst (Nat.le_of_ble_eq_true rfl) (fun K hK htab hNc hl => ?_)
  subst hl
  show zG K Z (zΩ Z) (zF K Z (zΩ Z) (ze2 mkI)) 2 12 0 [(0, .ref (Z.2.2.1 + 1)), (1, .int (zi a1)), (2, .ref (Z.2.2.1 + 339))] [] μ (fL_wouldHide a1 μ)
  unfold fL_wouldHide
  refine g_aload_n hK 2 rfl rfl dL_wouldHide_0 ?_
  refine g_iconst hK dL_wouldHide_1 zki0 ?_
  refine g_aload_n hK 0 rfl rfl dL_wouldHide_2 ?_
  refine g_iload_n hK 1 rfl rfl dL_wouldHide_3 ?_
  refine g_callV0 hK (resC := f5_wouldHide a1 μ) (encC := zeX mkI) (rm := rm5_wouldHide) (cb := 0) (sb := 0) (rest := [.int (zi 0), .ref (Z.2.2.1 + 339)]) (As := [.int (zi a1)]) (b := 1) (n := 1) (c5_wouldHide K.2.1 hK.2.2.2.2.2.2.2.2.1 Z a1 μ ha1) rfl (ci := 5) rfl (by decide) kc_1 q_1036 q_1037 q_1038 q_1 q_1039 rfl (by decide +kernel) (by decide) (Nat.le_of_ble_eq_true rfl) (Nat.le_of_ble_eq_true rfl) (Nat.le_of_ble_eq_true rfl) rfl dL_wouldHide_4 (fun a ha => ?_)
  cases hf : f5_wouldHide a1 μ with
  | none => rw [hf] at ha; cases ha
  | some x =>
    obtain ⟨r, m1⟩ := x
    rw [hf] at ha
    cases r with
    | inr v =>
      cases ha
      refine ⟨(.inr v, m1), rfl, fun w hw hp => ?_, fun E hE => (by cases hE)⟩
      cases hw
      show zG K Z (zΩ Z) (zF K Z (zΩ Z) (ze2 mkI)) 0 0 7 [(0, .ref (Z.2.2.1 + 1)), (1, .int (zi a1)), (2, .ref (Z.2.2.1 + 339))] [.int (zi v), .int (zi 0), .ref (Z.2.2.1 + 339)] m1 (some (0, zsL m1 339 0 v))
      refine g_i2l hK dL_wouldHide_7 hp ?_
      rw [← zgd_true (A := some ((0 : Int), zsL m1 339 0 v)) (show zin 0 (zln 339) from by decide +kernel)]
      refine g_last hK (zr_64 hp) kc_339 dL_wouldHide_8 (fun _ => ?_)
      refine g_goto hK (tgt := 18) (by decide) dL_wouldHide_9 ?_
      refine g_iconst hK dL_wouldHide_18 zki0 ?_
      exact g_iret hK zc0 rfl rfl dL_wouldHide_19
    | inl E =>
      refine ⟨(.inl E, m1), rfl, fun w hw => (by cases hw), fun E2 hE => ?_⟩
      cases hE
      by_cases e0 : xIO = E
      · subst e0
        rw [zwr_hit (k := 1) (by rw [zwn_hit])] at ha
        cases ha
        refine g_catch hK htab hNc [] (0, 9, 12, 25) [(0, 9, 15, 13)] rfl (fun z hz => nomatch hz) (by decide) (by decide) (by decide) q_809 qn_820 (fun q => ?_)
        refine g_astore_n hK (lv2 := [(0, .ref (Z.2.2.1 + 1)), (1, .int (zi a1)), (2, .ref (Z.2.2.1 + 339))]) [1, 2, 3] rfl rfl (by decide) dL_wouldHide_12 ?_
        refine g_iconst hK dL_wouldHide_13 zki1 ?_
        exact g_iret hK zc1 rfl rfl dL_wouldHide_14
      by_cases e1 : xIS = E
      · subst e1
        rw [zwr_hit (k := 2) (by rw [zwn_miss e0, zwn_hit])] at ha
        cases ha
        refine g_catch hK htab hNc [(0, 9, 12, 25)] (0, 9, 15, 13) [] rfl (List.forall_mem_cons.mpr ⟨⟨by decide, xIO, q_809, by decide, fun h => e0 h.symm⟩, fun _ h => nomatch h⟩) (by decide) (by decide) (by decide) q_702 qn_712 (fun q => ?_)
        refine g_astore_n hK (lv2 := [(0, .ref (Z.2.2.1 + 1)), (1, .int (zi a1)), (2, .ref (Z.2.2.1 + 339))]) [1, 2, 3] rfl rfl (by decide) dL_wouldHide_15 ?_
        refine g_iconst hK dL_wouldHide_16 zki2 ?_
        exact g_iret hK zc2 rfl rfl dL_wouldHide_17
      rw [zwr_miss (by rw [zwn_miss e0, zwn_miss e1]; rfl)] at ha
      cases ha
set_option maxRecDepth 20000 in
theorem cL_lengthOf (l : Launch) (hst : l.stackTraces = false) (Z : zZ) (a1 : Int) (μ : zM) (ha1 : zr a1) : ∀ x, fL_lengthOf a1 μ = some x → zCtW l Z yL_lengthOf (zwsW yL_lengthOf bL_lengthOf 4 (some .int) [(0, 9, 12, 25)]) rmL_lengthOf [.ref (Z.2.2.1 + 1), .int (zi a1), .ref (Z.2.2.1 + 339)] μ (ze2 mkI x) := by
  intro x h
  refine zCtW.of (enc := ze2 mkI) h (by decide) hst (Nat.le_of_ble_eq_true rfl) (fun K hK htab hNc hl => ?_)
  subst hl
  show zG K Z (zΩ Z) (zF K Z (zΩ Z) (ze2 mkI)) 1 6 0 [(0, .ref (Z.2.2.1 + 1)), (1, .int (zi a1)), (2, .ref (Z.2.2.1 + 339))] [] μ (fL_lengthOf a1 μ)
  unfold fL_lengthOf
  refine g_aload_n hK 2 rfl rfl dL_lengthOf_0 ?_
  refine g_iconst hK dL_lengthOf_1 zki0 ?_
  refine g_aload_n hK 0 rfl rfl dL_lengthOf_2 ?_
  refine g_iload_n hK 1 rfl rfl dL_lengthOf_3 ?_
  refine g_callV0 hK (resC := f5_lengthOf a1 μ) (encC := zeX mkI) (rm := rm5_lengthOf) (cb := 0) (sb := 0) (rest := [.int (zi 0), .ref (Z.2.2.1 + 339)]) (As := [.int (zi a1)]) (b := 1) (n := 1) (c5_lengthOf K.2.1 hK.2.2.2.2.2.2.2.2.1 Z a1 μ ha1) rfl (ci := 5) rfl (by decide) kc_1 q_1043 q_1044 q_1045 q_1 q_1046 rfl (by decide +kernel) (by decide) (Nat.le_of_ble_eq_true rfl) (Nat.le_of_ble_eq_true rfl) (Nat.le_of_ble_eq_true rfl) rfl dL_lengthOf_4 (fun a ha => ?_)
  cases hf : f5_lengthOf a1 μ with
  | none => rw [hf] at ha; cases ha
  | some x =>
    obtain ⟨r, m1⟩ := x
    rw [hf] at ha
    cases r with
    | inr v =>
      cases ha
      refine ⟨(.inr v, m1), rfl, fun w hw hp => ?_, fun E hE => (by cases hE)⟩
      cases hw
      show zG K Z (zΩ Z) (zF K Z (zΩ Z) (ze2 mkI)) 0 0 7 [(0, .ref (Z.2.2.1 + 1)), (1, .int (zi a1)), (2, .ref (Z.2.2.1 + 339))] [.int (zi v), .int (zi 0), .ref (Z.2.2.1 + 339)] m1 (some (0, zsL m1 339 0 v))
      refine g_i2l hK dL_lengthOf_7 hp ?_
      rw [← zgd_true (A := some ((0 : Int), zsL m1 339 0 v)) (show zin 0 (zln 339) from by decide +kernel)]
      refine g_last hK (zr_64 hp) kc_339 dL_lengthOf_8 (fun _ => ?_)
      refine g_goto hK (tgt := 15) (by decide) dL_lengthOf_9 ?_
      refine g_iconst hK dL_lengthOf_15 zki0 ?_
      exact g_iret hK zc0 rfl rfl dL_lengthOf_16
    | inl E =>
      refine ⟨(.inl E, m1), rfl, fun w hw => (by cases hw), fun E2 hE => ?_⟩
      cases hE
      by_cases e0 : xIO = E
      · subst e0
        rw [zwr_hit (k := 1) (by rw [zwn_hit])] at ha
        cases ha
        refine g_catch hK htab hNc [] (0, 9, 12, 25) [] rfl (fun z hz => nomatch hz) (by decide) (by decide) (by decide) q_809 qn_820 (fun q => ?_)
        refine g_astore_n hK (lv2 := [(0, .ref (Z.2.2.1 + 1)), (1, .int (zi a1)), (2, .ref (Z.2.2.1 + 339))]) [1, 2, 3] rfl rfl (by decide) dL_lengthOf_12 ?_
        refine g_iconst hK dL_lengthOf_13 zki1 ?_
        exact g_iret hK zc1 rfl rfl dL_lengthOf_14
      rw [zwr_miss (by rw [zwn_miss e0]; rfl)] at ha
      cases ha
set_option maxRecDepth 20000 in
theorem cL_expand (l : Launch) (hst : l.stackTraces = false) (Z : zZ) (a1 : Int) (μ : zM) (ha1 : zr a1) : ∀ x, fL_expand a1 μ = some x → zCtW l Z yL_expand (zwsW yL_expand bL_expand 4 (some .int) [(0, 9, 12, 25)]) rmL_expand [.ref (Z.2.2.1 + 1), .int (zi a1), .ref (Z.2.2.1 + 339)] μ (ze2 mkI x) := by
  intro x h
  refine zCtW.of (enc := ze2 mkI) h (by decide) hst (Nat.le_of_ble_eq_true rfl) (fun K hK htab hNc hl => ?_)
  subst hl
  show zG K Z (zΩ Z) (zF K Z (zΩ Z) (ze2 mkI)) 1 6 0 [(0, .ref (Z.2.2.1 + 1)), (1, .int (zi a1)), (2, .ref (Z.2.2.1 + 339))] [] μ (fL_expand a1 μ)
  unfold fL_expand
  refine g_aload_n hK 2 rfl rfl dL_expand_0 ?_
  refine g_iconst hK dL_expand_1 zki0 ?_
  refine g_aload_n hK 0 rfl rfl dL_expand_2 ?_
  refine g_iload_n hK 1 rfl rfl dL_expand_3 ?_
  refine g_callV0 hK (resC := f5_expand a1 μ) (encC := zeX mkI) (rm := rm5_expand) (cb := 0) (sb := 0) (rest := [.int (zi 0), .ref (Z.2.2.1 + 339)]) (As := [.int (zi a1)]) (b := 1) (n := 1) (c5_expand K.2.1 hK.2.2.2.2.2.2.2.2.1 Z a1 μ ha1) rfl (ci := 5) rfl (by decide) kc_1 q_1056 q_1057 q_1058 q_1 q_1059 rfl (by decide +kernel) (by decide) (Nat.le_of_ble_eq_true rfl) (Nat.le_of_ble_eq_true rfl) (Nat.le_of_ble_eq_true rfl) rfl dL_expand_4 (fun a ha => ?_)
  cases hf : f5_expand a1 μ with
  | none => rw [hf] at ha; cases ha
  | some x =>
    obtain ⟨r, m1⟩ := x
    rw [hf] at ha
    cases r with
    | inr v =>
      cases ha
      refine ⟨(.inr v, m1), rfl, fun w hw hp => ?_, fun E hE => (by cases hE)⟩
      cases hw
      show zG K Z (zΩ Z) (zF K Z (zΩ Z) (ze2 mkI)) 0 0 7 [(0, .ref (Z.2.2.1 + 1)), (1, .int (zi a1)), (2, .ref (Z.2.2.1 + 339))] [.int (zi v), .int (zi 0), .ref (Z.2.2.1 + 339)] m1 (some (0, zsL m1 339 0 v))
      refine g_i2l hK dL_expand_7 hp ?_
      rw [← zgd_true (A := some ((0 : Int), zsL m1 339 0 v)) (show zin 0 (zln 339) from by decide +kernel)]
      refine g_last hK (zr_64 hp) kc_339 dL_expand_8 (fun _ => ?_)
      refine g_goto hK (tgt := 15) (by decide) dL_expand_9 ?_
      refine g_iconst hK dL_expand_15 zki0 ?_
      exact g_iret hK zc0 rfl rfl dL_expand_16
    | inl E =>
      refine ⟨(.inl E, m1), rfl, fun w hw => (by cases hw), fun E2 hE => ?_⟩
      cases hE
      by_cases e0 : xIO = E
      · subst e0
        rw [zwr_hit (k := 1) (by rw [zwn_hit])] at ha
        cases ha
        refine g_catch hK htab hNc [] (0, 9, 12, 25) [] rfl (fun z hz => nomatch hz) (by decide) (by decide) (by decide) q_809 qn_820 (fun q => ?_)
        refine g_astore_n hK (lv2 := [(0, .ref (Z.2.2.1 + 1)), (1, .int (zi a1)), (2, .ref (Z.2.2.1 + 339))]) [1, 2, 3] rfl rfl (by decide) dL_expand_12 ?_
        refine g_iconst hK dL_expand_13 zki1 ?_
        exact g_iret hK zc1 rfl rfl dL_expand_14
      rw [zwr_miss (by rw [zwn_miss e0]; rfl)] at ha
      cases ha
set_option maxRecDepth 20000 in
theorem cL_type (l : Launch) (hst : l.stackTraces = false) (Z : zZ) (a1 : Int) (μ : zM) (ha1 : zr a1) : ∀ x, fL_type a1 μ = some x → zCtW l Z yL_type (zwsW yL_type bL_type 4 (some .int) [(0, 9, 12, 19), (0, 9, 15, 93)]) rmL_type [.ref (Z.2.2.1 + 1), .int (zi a1), .ref (Z.2.2.1 + 339)] μ (ze2 mkI x) := by
  intro x h
  refine zCtW.of (enc := ze2 mkI) h (by decide) hst (Nat.le_of_ble_eq_true rfl) (fun K hK htab hNc hl => ?_)
  subst hl
  show zG K Z (zΩ Z) (zF K Z (zΩ Z) (ze2 mkI)) 2 12 0 [(0, .ref (Z.2.2.1 + 1)), (1, .int (zi a1)), (2, .ref (Z.2.2.1 + 339))] [] μ (fL_type a1 μ)
  unfold fL_type
  refine g_aload_n hK 2 rfl rfl dL_type_0 ?_
  refine g_iconst hK dL_type_1 zki0 ?_
  refine g_aload_n hK 0 rfl rfl dL_type_2 ?_
  refine g_iload_n hK 1 rfl rfl dL_type_3 ?_
  refine g_callV0 hK (resC := f5_type a1 μ) (encC := zeX mkI) (rm := rm5_type) (cb := 0) (sb := 0) (rest := [.int (zi 0), .ref (Z.2.2.1 + 339)]) (As := [.int (zi a1)]) (b := 1) (n := 1) (c5_type K.2.1 hK.2.2.2.2.2.2.2.2.1 Z a1 μ ha1) rfl (ci := 5) rfl (by decide) kc_1 q_1068 q_1069 q_1070 q_1 q_1071 rfl (by decide +kernel) (by decide) (Nat.le_of_ble_eq_true rfl) (Nat.le_of_ble_eq_true rfl) (Nat.le_of_ble_eq_true rfl) rfl dL_type_4 (fun a ha => ?_)
  cases hf : f5_type a1 μ with
  | none => rw [hf] at ha; cases ha
  | some x =>
    obtain ⟨r, m1⟩ := x
    rw [hf] at ha
    cases r with
    | inr v =>
      cases ha
      refine ⟨(.inr v, m1), rfl, fun w hw hp => ?_, fun E hE => (by cases hE)⟩
      cases hw
      show zG K Z (zΩ Z) (zF K Z (zΩ Z) (ze2 mkI)) 0 0 7 [(0, .ref (Z.2.2.1 + 1)), (1, .int (zi a1)), (2, .ref (Z.2.2.1 + 339))] [.int (zi v), .int (zi 0), .ref (Z.2.2.1 + 339)] m1 (some (0, zsL m1 339 0 v))
      refine g_i2l hK dL_type_7 hp ?_
      rw [← zgd_true (A := some ((0 : Int), zsL m1 339 0 v)) (show zin 0 (zln 339) from by decide +kernel)]
      refine g_last hK (zr_64 hp) kc_339 dL_type_8 (fun _ => ?_)
      refine g_goto hK (tgt := 18) (by decide) dL_type_9 ?_
      refine g_iconst hK dL_type_18 zki0 ?_
      exact g_iret hK zc0 rfl rfl dL_type_19
    | inl E =>
      refine ⟨(.inl E, m1), rfl, fun w hw => (by cases hw), fun E2 hE => ?_⟩
      cases hE
      by_cases e0 : xIA = E
      · subst e0
        rw [zwr_hit (k := 1) (by rw [zwn_hit])] at ha
        cases ha
        refine g_catch hK htab hNc [] (0, 9, 12, 19) [(0, 9, 15, 93)] rfl (fun z hz => nomatch hz) (by decide) (by decide) (by decide) q_785 qn_792 (fun q => ?_)
        refine g_astore_n hK (lv2 := [(0, .ref (Z.2.2.1 + 1)), (1, .int (zi a1)), (2, .ref (Z.2.2.1 + 339))]) [1, 2, 3] rfl rfl (by decide) dL_type_12 ?_
        refine g_iconst hK dL_type_13 zki1 ?_
        exact g_iret hK zc1 rfl rfl dL_type_14
      by_cases e1 : xNS = E
      · subst e1
        rw [zwr_hit (k := 2) (by rw [zwn_miss e0, zwn_hit])] at ha
        cases ha
        refine g_catch hK htab hNc [(0, 9, 12, 19)] (0, 9, 15, 93) [] rfl (List.forall_mem_cons.mpr ⟨⟨by decide, xIA, q_785, by decide, fun h => e0 h.symm⟩, fun _ h => nomatch h⟩) (by decide) (by decide) (by decide) q_1067 qn_1074 (fun q => ?_)
        refine g_astore_n hK (lv2 := [(0, .ref (Z.2.2.1 + 1)), (1, .int (zi a1)), (2, .ref (Z.2.2.1 + 339))]) [1, 2, 3] rfl rfl (by decide) dL_type_15 ?_
        refine g_iconst hK dL_type_16 zki2 ?_
        exact g_iret hK zc2 rfl rfl dL_type_17
      rw [zwr_miss (by rw [zwn_miss e0, zwn_miss e1]; rfl)] at ha
      cases ha
set_option maxRecDepth 20000 in
theorem cL_go (l : Launch) (hst : l.stackTraces = false) (Z : zZ) (a1 : Int) (μ : zM) (ha1 : zr a1) : ∀ x, fL_go a1 μ = some x → zCtW l Z yL_go (zwsW yL_go bL_go 4 (some .int) [(0, 9, 12, 25)]) rmL_go [.ref (Z.2.2.1 + 1), .int (zi a1), .ref (Z.2.2.1 + 339)] μ (ze2 mkI x) := by
  intro x h
  refine zCtW.of (enc := ze2 mkI) h (by decide) hst (Nat.le_of_ble_eq_true rfl) (fun K hK htab hNc hl => ?_)
  subst hl
  show zG K Z (zΩ Z) (zF K Z (zΩ Z) (ze2 mkI)) 1 6 0 [(0, .ref (Z.2.2.1 + 1)), (1, .int (zi a1)), (2, .ref (Z.2.2.1 + 339))] [] μ (fL_go a1 μ)
  unfold fL_go
  refine g_aload_n hK 2 rfl rfl dL_go_0 ?_
  refine g_iconst hK dL_go_1 zki0 ?_
  refine g_aload_n hK 0 rfl rfl dL_go_2 ?_
  refine g_iload_n hK 1 rfl rfl dL_go_3 ?_
  refine g_callV0 hK (resC := f5_go a1 μ) (encC := zeX mkI) (rm := rm5_go) (cb := 0) (sb := 0) (rest := [.int (zi 0), .ref (Z.2.2.1 + 339)]) (As := [.int (zi a1)]) (b := 1) (n := 1) (c5_go K.2.1 hK.2.2.2.2.2.2.2.2.1 Z a1 μ ha1) rfl (ci := 5) rfl (by decide) kc_1 q_1095 q_1096 q_1097 q_1 q_1098 rfl (by decide +kernel) (by decide) (Nat.le_of_ble_eq_true rfl) (Nat.le_of_ble_eq_true rfl) (Nat.le_of_ble_eq_true rfl) rfl dL_go_4 (fun a ha => ?_)
  cases hf : f5_go a1 μ with
  | none => rw [hf] at ha; cases ha
  | some x =>
    obtain ⟨r, m1⟩ := x
    rw [hf] at ha
    cases r with
    | inr v =>
      cases ha
      refine ⟨(.inr v, m1), rfl, fun w hw hp => ?_, fun E hE => (by cases hE)⟩
      cases hw
      show zG K Z (zΩ Z) (zF K Z (zΩ Z) (ze2 mkI)) 0 0 7 [(0, .ref (Z.2.2.1 + 1)), (1, .int (zi a1)), (2, .ref (Z.2.2.1 + 339))] [.int (zi v), .int (zi 0), .ref (Z.2.2.1 + 339)] m1 (some (0, zsL m1 339 0 v))
      refine g_i2l hK dL_go_7 hp ?_
      rw [← zgd_true (A := some ((0 : Int), zsL m1 339 0 v)) (show zin 0 (zln 339) from by decide +kernel)]
      refine g_last hK (zr_64 hp) kc_339 dL_go_8 (fun _ => ?_)
      refine g_goto hK (tgt := 15) (by decide) dL_go_9 ?_
      refine g_iconst hK dL_go_15 zki0 ?_
      exact g_iret hK zc0 rfl rfl dL_go_16
    | inl E =>
      refine ⟨(.inl E, m1), rfl, fun w hw => (by cases hw), fun E2 hE => ?_⟩
      cases hE
      by_cases e0 : xIO = E
      · subst e0
        rw [zwr_hit (k := 1) (by rw [zwn_hit])] at ha
        cases ha
        refine g_catch hK htab hNc [] (0, 9, 12, 25) [] rfl (fun z hz => nomatch hz) (by decide) (by decide) (by decide) q_809 qn_820 (fun q => ?_)
        refine g_astore_n hK (lv2 := [(0, .ref (Z.2.2.1 + 1)), (1, .int (zi a1)), (2, .ref (Z.2.2.1 + 339))]) [1, 2, 3] rfl rfl (by decide) dL_go_12 ?_
        refine g_iconst hK dL_go_13 zki1 ?_
        exact g_iret hK zc1 rfl rfl dL_go_14
      rw [zwr_miss (by rw [zwn_miss e0]; rfl)] at ha
      cases ha
set_option maxRecDepth 20000 in
theorem cL_undo (l : Launch) (hst : l.stackTraces = false) (Z : zZ) (μ : zM) : ∀ x, fL_undo μ = some x → zCtW l Z yL_undo (zwsW yL_undo bL_undo 3 (some .int) [(0, 8, 11, 13)]) rmL_undo [.ref (Z.2.2.1 + 1), .ref (Z.2.2.1 + 339)] μ (ze2 mkI x) := by
  intro x h
  refine zCtW.of (enc := ze2 mkI) h (by decide) hst (Nat.le_of_ble_eq_true rfl) (fun K hK htab hNc hl => ?_)
  subst hl
  show zG K Z (zΩ Z) (zF K Z (zΩ Z) (ze2 mkI)) 1 6 0 [(0, .ref (Z.2.2.1 + 1)), (1, .ref (Z.2.2.1 + 339))] [] μ (fL_undo μ)
  unfold fL_undo
  refine g_aload_n hK 1 rfl rfl dL_undo_0 ?_
  refine g_iconst hK dL_undo_1 zki0 ?_
  refine g_aload_n hK 0 rfl rfl dL_undo_2 ?_
  refine g_callV0 hK (resC := f5_undo μ) (encC := zeX mkI) (rm := rm5_undo) (cb := 0) (sb := 0) (rest := [.int (zi 0), .ref (Z.2.2.1 + 339)]) (As := []) (b := 1) (n := 0) (c5_undo K.2.1 hK.2.2.2.2.2.2.2.2.1 Z μ ) rfl (ci := 5) rfl (by decide) kc_1 q_1102 q_1103 q_1104 q_1 q_1105 rfl (by decide +kernel) (by decide) (Nat.le_of_ble_eq_true rfl) (Nat.le_of_ble_eq_true rfl) (Nat.le_of_ble_eq_true rfl) rfl dL_undo_3 (fun a ha => ?_)
  cases hf : f5_undo μ with
  | none => rw [hf] at ha; cases ha
  | some x =>
    obtain ⟨r, m1⟩ := x
    rw [hf] at ha
    cases r with
    | inr v =>
      cases ha
      refine ⟨(.inr v, m1), rfl, fun w hw hp => ?_, fun E hE => (by cases hE)⟩
      cases hw
      show zG K Z (zΩ Z) (zF K Z (zΩ Z) (ze2 mkI)) 0 0 6 [(0, .ref (Z.2.2.1 + 1)), (1, .ref (Z.2.2.1 + 339))] [.int (zi v), .int (zi 0), .ref (Z.2.2.1 + 339)] m1 (some (0, zsL m1 339 0 v))
      refine g_i2l hK dL_undo_6 hp ?_
      rw [← zgd_true (A := some ((0 : Int), zsL m1 339 0 v)) (show zin 0 (zln 339) from by decide +kernel)]
      refine g_last hK (zr_64 hp) kc_339 dL_undo_7 (fun _ => ?_)
      refine g_goto hK (tgt := 14) (by decide) dL_undo_8 ?_
      refine g_iconst hK dL_undo_14 zki0 ?_
      exact g_iret hK zc0 rfl rfl dL_undo_15
    | inl E =>
      refine ⟨(.inl E, m1), rfl, fun w hw => (by cases hw), fun E2 hE => ?_⟩
      cases hE
      by_cases e0 : xIS = E
      · subst e0
        rw [zwr_hit (k := 1) (by rw [zwn_hit])] at ha
        cases ha
        refine g_catch hK htab hNc [] (0, 8, 11, 13) [] rfl (fun z hz => nomatch hz) (by decide) (by decide) (by decide) q_702 qn_712 (fun q => ?_)
        refine g_astore_n hK (lv2 := [(0, .ref (Z.2.2.1 + 1)), (1, .ref (Z.2.2.1 + 339))]) [1, 2] rfl rfl (by decide) dL_undo_11 ?_
        refine g_iconst hK dL_undo_12 zki1 ?_
        exact g_iret hK zc1 rfl rfl dL_undo_13
      rw [zwr_miss (by rw [zwn_miss e0]; rfl)] at ha
      cases ha
set_option maxRecDepth 20000 in
theorem cL_save (l : Launch) (hst : l.stackTraces = false) (Z : zZ) (a1 : Int) (μ : zM) (ha1 : zr a1) : ∀ x, fL_save a1 μ = some x → zCtW l Z yL_save (zwsW yL_save bL_save 4 (some .int) [(0, 9, 12, 25)]) rmL_save [.ref (Z.2.2.1 + 1), .int (zi a1), .ref (Z.2.2.1 + 339)] μ (ze2 mkI x) := by
  intro x h
  refine zCtW.of (enc := ze2 mkI) h (by decide) hst (Nat.le_of_ble_eq_true rfl) (fun K hK htab hNc hl => ?_)
  subst hl
  show zG K Z (zΩ Z) (zF K Z (zΩ Z) (ze2 mkI)) 1 6 0 [(0, .ref (Z.2.2.1 + 1)), (1, .int (zi a1)), (2, .ref (Z.2.2.1 + 339))] [] μ (fL_save a1 μ)
  unfold fL_save
  refine g_aload_n hK 2 rfl rfl dL_save_0 ?_
  refine g_iconst hK dL_save_1 zki0 ?_
  refine g_aload_n hK 0 rfl rfl dL_save_2 ?_
  refine g_iload_n hK 1 rfl rfl dL_save_3 ?_
  refine g_callV0 hK (resC := f5_save a1 μ) (encC := zeX mkI) (rm := rm5_save) (cb := 0) (sb := 0) (rest := [.int (zi 0), .ref (Z.2.2.1 + 339)]) (As := [.int (zi a1)]) (b := 1) (n := 1) (c5_save K.2.1 hK.2.2.2.2.2.2.2.2.1 Z a1 μ ha1) rfl (ci := 5) rfl (by decide) kc_1 q_1110 q_1111 q_1112 q_1 q_1113 rfl (by decide +kernel) (by decide) (Nat.le_of_ble_eq_true rfl) (Nat.le_of_ble_eq_true rfl) (Nat.le_of_ble_eq_true rfl) rfl dL_save_4 (fun a ha => ?_)
  cases hf : f5_save a1 μ with
  | none => rw [hf] at ha; cases ha
  | some x =>
    obtain ⟨r, m1⟩ := x
    rw [hf] at ha
    cases r with
    | inr v =>
      cases ha
      refine ⟨(.inr v, m1), rfl, fun w hw hp => ?_, fun E hE => (by cases hE)⟩
      cases hw
      show zG K Z (zΩ Z) (zF K Z (zΩ Z) (ze2 mkI)) 0 0 7 [(0, .ref (Z.2.2.1 + 1)), (1, .int (zi a1)), (2, .ref (Z.2.2.1 + 339))] [.int (zi v), .int (zi 0), .ref (Z.2.2.1 + 339)] m1 (some (0, zsL m1 339 0 v))
      refine g_i2l hK dL_save_7 hp ?_
      rw [← zgd_true (A := some ((0 : Int), zsL m1 339 0 v)) (show zin 0 (zln 339) from by decide +kernel)]
      refine g_last hK (zr_64 hp) kc_339 dL_save_8 (fun _ => ?_)
      refine g_goto hK (tgt := 15) (by decide) dL_save_9 ?_
      refine g_iconst hK dL_save_15 zki0 ?_
      exact g_iret hK zc0 rfl rfl dL_save_16
    | inl E =>
      refine ⟨(.inl E, m1), rfl, fun w hw => (by cases hw), fun E2 hE => ?_⟩
      cases hE
      by_cases e0 : xIO = E
      · subst e0
        rw [zwr_hit (k := 1) (by rw [zwn_hit])] at ha
        cases ha
        refine g_catch hK htab hNc [] (0, 9, 12, 25) [] rfl (fun z hz => nomatch hz) (by decide) (by decide) (by decide) q_809 qn_820 (fun q => ?_)
        refine g_astore_n hK (lv2 := [(0, .ref (Z.2.2.1 + 1)), (1, .int (zi a1)), (2, .ref (Z.2.2.1 + 339))]) [1, 2, 3] rfl rfl (by decide) dL_save_12 ?_
        refine g_iconst hK dL_save_13 zki1 ?_
        exact g_iret hK zc1 rfl rfl dL_save_14
      rw [zwr_miss (by rw [zwn_miss e0]; rfl)] at ha
      cases ha
set_option maxRecDepth 20000 in
theorem cL_restore (l : Launch) (hst : l.stackTraces = false) (Z : zZ) (a1 : Int) (μ : zM) (ha1 : zr a1) : ∀ x, fL_restore a1 μ = some x → zCtW l Z yL_restore (zwsW yL_restore bL_restore 4 (some .int) [(0, 9, 12, 25), (0, 9, 15, 13)]) rmL_restore [.ref (Z.2.2.1 + 1), .int (zi a1), .ref (Z.2.2.1 + 339)] μ (ze2 mkI x) := by
  intro x h
  refine zCtW.of (enc := ze2 mkI) h (by decide) hst (Nat.le_of_ble_eq_true rfl) (fun K hK htab hNc hl => ?_)
  subst hl
  show zG K Z (zΩ Z) (zF K Z (zΩ Z) (ze2 mkI)) 2 12 0 [(0, .ref (Z.2.2.1 + 1)), (1, .int (zi a1)), (2, .ref (Z.2.2.1 + 339))] [] μ (fL_restore a1 μ)
  unfold fL_restore
  refine g_aload_n hK 2 rfl rfl dL_restore_0 ?_
  refine g_iconst hK dL_restore_1 zki0 ?_
  refine g_aload_n hK 0 rfl rfl dL_restore_2 ?_
  refine g_iload_n hK 1 rfl rfl dL_restore_3 ?_
  refine g_callV0 hK (resC := f5_restore a1 μ) (encC := zeX mkI) (rm := rm5_restore) (cb := 0) (sb := 0) (rest := [.int (zi 0), .ref (Z.2.2.1 + 339)]) (As := [.int (zi a1)]) (b := 1) (n := 1) (c5_restore K.2.1 hK.2.2.2.2.2.2.2.2.1 Z a1 μ ha1) rfl (ci := 5) rfl (by decide) kc_1 q_1121 q_1122 q_1123 q_1 q_1124 rfl (by decide +kernel) (by decide) (Nat.le_of_ble_eq_true rfl) (Nat.le_of_ble_eq_true rfl) (Nat.le_of_ble_eq_true rfl) rfl dL_restore_4 (fun a ha => ?_)
  cases hf : f5_restore a1 μ with
  | none => rw [hf] at ha; cases ha
  | some x =>
    obtain ⟨r, m1⟩ := x
    rw [hf] at ha
    cases r with
    | inr v =>
      cases ha
      refine ⟨(.inr v, m1), rfl, fun w hw hp => ?_, fun E hE => (by cases hE)⟩
      cases hw
      show zG K Z (zΩ Z) (zF K Z (zΩ Z) (ze2 mkI)) 0 0 7 [(0, .ref (Z.2.2.1 + 1)), (1, .int (zi a1)), (2, .ref (Z.2.2.1 + 339))] [.int (zi v), .int (zi 0), .ref (Z.2.2.1 + 339)] m1 (some (0, zsL m1 339 0 v))
      refine g_i2l hK dL_restore_7 hp ?_
      rw [← zgd_true (A := some ((0 : Int), zsL m1 339 0 v)) (show zin 0 (zln 339) from by decide +kernel)]
      refine g_last hK (zr_64 hp) kc_339 dL_restore_8 (fun _ => ?_)
      refine g_goto hK (tgt := 18) (by decide) dL_restore_9 ?_
      refine g_iconst hK dL_restore_18 zki0 ?_
      exact g_iret hK zc0 rfl rfl dL_restore_19
    | inl E =>
      refine ⟨(.inl E, m1), rfl, fun w hw => (by cases hw), fun E2 hE => ?_⟩
      cases hE
      by_cases e0 : xIO = E
      · subst e0
        rw [zwr_hit (k := 1) (by rw [zwn_hit])] at ha
        cases ha
        refine g_catch hK htab hNc [] (0, 9, 12, 25) [(0, 9, 15, 13)] rfl (fun z hz => nomatch hz) (by decide) (by decide) (by decide) q_809 qn_820 (fun q => ?_)
        refine g_astore_n hK (lv2 := [(0, .ref (Z.2.2.1 + 1)), (1, .int (zi a1)), (2, .ref (Z.2.2.1 + 339))]) [1, 2, 3] rfl rfl (by decide) dL_restore_12 ?_
        refine g_iconst hK dL_restore_13 zki1 ?_
        exact g_iret hK zc1 rfl rfl dL_restore_14
      by_cases e1 : xIS = E
      · subst e1
        rw [zwr_hit (k := 2) (by rw [zwn_miss e0, zwn_hit])] at ha
        cases ha
        refine g_catch hK htab hNc [(0, 9, 12, 25)] (0, 9, 15, 13) [] rfl (List.forall_mem_cons.mpr ⟨⟨by decide, xIO, q_809, by decide, fun h => e0 h.symm⟩, fun _ h => nomatch h⟩) (by decide) (by decide) (by decide) q_702 qn_712 (fun q => ?_)
        refine g_astore_n hK (lv2 := [(0, .ref (Z.2.2.1 + 1)), (1, .int (zi a1)), (2, .ref (Z.2.2.1 + 339))]) [1, 2, 3] rfl rfl (by decide) dL_restore_15 ?_
        refine g_iconst hK dL_restore_16 zki2 ?_
        exact g_iret hK zc2 rfl rfl dL_restore_17
      rw [zwr_miss (by rw [zwn_miss e0, zwn_miss e1]; rfl)] at ha
      cases ha
