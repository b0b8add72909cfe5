/-! THE CLASS'S QUESTIONS of the innermost session -/
section cAsk2
variable {A : zA} {c : Int} {μ : zM}
theorem q_facts (hA : wA c A) (hq : qD A ≠ 0) : wS (qS A) ∧ (∀ f, f < 10 → (qX A f).length ≤ 40) ∧ vTL (qS A) (qT A) (qN A) ≤ 400 ∧ qC A < 10 ∧ vLv (qS A) (qT A) (qC A) = true ∧ (∀ f, f < 10 → qT A f = false → qX A f = []) ∧ tC (aS A) (qD A - 1) = (qC A : Nat) ∧ (∀ i, 10 ≤ i → i < 32 → mbit (tY (aS A) (qD A - 1)) i = false) ∧ (tO (aS A) = 0 ∨ tO (aS A) = 1) ∧ qD A ≤ 4 := by
  have hl : qD A - 1 < tD (aS A) := by show qD A - 1 < qD A; omega
  have hw := hA.2.1.1.2.2.2 _ hl
  have hx := hA.2.1.2 _ hl
  have h10 := vLv_lt (hA.S hl) hx.2.2.1.1
  refine ⟨hA.S hl, fun f hf => (hw.2.2.2.2 f hf).1, hx.2.2.2, ?_, hx.2.2.1.1, fun f hf ht => (hw.2.2.2.2 f hf).2 ht, ?_, hw.2.2.2.1, hA.2.1.1.1, hA.2.1.1.2.1⟩
  · exact h10
  · have := hx.2.2.1.2; unfold qC; omega
theorem c_inn (hA : wA c A) (hR : rC A μ) (hq : qD A ≠ 0) : ∃ m t, f5_lookAtInnermost μ = some (.inr (), m) ∧ vOnly μ m ∧ okT t ∧ zR m 200 0 = t ∧ pSc m t (qS A) ∧ vMs (qS A) (qT A) (qN A) m ∧ (∀ f, f < 10 → mbit (zI m 200 1) f = qT A f) ∧ zI m 200 1 = tY (aS A) (qD A - 1) ∧ (∀ f, f < 10 → ∀ i, i < (qX A f).length → zI m 207 (400 * f + i) = (qX A f).getD i 0) ∧ (∀ f, f < 10 → zI m 201 f = (qX A f).length) ∧ vOl (qO A) m := by
  obtain ⟨m, e, h1, ⟨t, t1, t2, t3, t4, t5, t6, t7, t8⟩, h3⟩ := c_inner hA hR hq
  exact ⟨m, t, e, h1, t1, t2, t3, t4, t5, t6, t7, t8, h3⟩
theorem qO_len (hA : wA c A) (hq : qD A ≠ 0) : (qO A).length ≤ 10 := by
  have hW := (q_facts hA hq).1
  unfold qO vOrd
  rw [List.length_append]
  have h1 : (if tO (aS A) = 0 then ordN (qS A) (qT A) 10 else ordP (qS A) (qT A) (sN (qS A))).length ≤ 9 := by
    split
    · exact (ordN_ok (qS A) (qT A) 10 (by decide)).1.le
    · exact (ordP_ok hW (qT A) _ (Nat.le_refl _)).le
  have h2 : (if vLv (qS A) (qT A) 0 = true then [0] else [] : List Nat).length ≤ 1 := by split <;> simp
  omega
theorem vL_400 {S : zSn} (hW : wS S) {ty : Nat → Bool} {ln : Nat → Nat} (hl : ∀ f, f < 10 → ln f ≤ 400) (hT : vTL S ty ln ≤ 400) {f : Nat} (hf : f < 10) : vL S ty ln f ≤ 400 := by
  have := hl f hf
  rcases vL_le hW ty ln hf with h | ⟨h1, h2⟩
  · omega
  · rw [h2]; split <;> omega
theorem c_field (hA : wA c A) (hR : rC A μ) (f w : Int) : zok (f5_field f w μ) (cOk A μ (cRes [xIO, xIA, xIS] (spField A f w))) := by
  unfold f5_field f5_field_14
  by_cases hf : 0 ≤ f ∧ f < 10
  · rw [c_fld1 hf, zcx_r]
    by_cases hw : 0 ≤ w ∧ w ≤ 6
    · refine zok_f (by omega) (zok_t hw.2 ?_)
      by_cases hq : qD A = 0
      · rw [c_inner0 hR hq, zcx_l]
        unfold spField
        rw [if_neg (fun q => q hf), if_neg (fun q => q hw), if_pos hq]
        exact zok_some (cOk.same hR)
      · obtain ⟨m, t, e, hv, t1, t2, t3, t4, t5, t6, t7, t8, t9⟩ := c_inn hA hR hq
        obtain ⟨g1, g2, g3, g4, g5, g6, g7, g8, g9, g10⟩ := q_facts hA hq
        have h400 := fun f hf => vL_400 (ln := qN A) g1 (fun f hf => Nat.le_trans (g2 f hf) (by decide)) g3 (f := f) hf
        rw [e, zcx_r]
        obtain ⟨j, rfl⟩ : ∃ j : Nat, f = j := ⟨f.toNat, by omega⟩
        have hj : j < 10 := by omega
        have es : spField A (j : Int) w = .inr (if w = 0 then zb (vLv (qS A) (qT A) j) else if w = 1 then zb (qT A j) else if w = 2 then (vCn (qS A) (qT A) j : Nat) else if w = 3 then vSd (qS A) (qT A) j else if w = 4 then plc (qO A) j else if w = 5 then (vL (qS A) (qT A) (qN A) j : Nat) else (cnt (fun o => decide (sF (qS A) o = (j : Nat))) (sN (qS A)) : Nat)) := by
          unfold spField
          rw [if_neg (fun q => q hf), if_neg (fun q => q hw), if_neg hq]; rfl
        obtain ⟨l1, l2, l3, l4, l5, l6, l7, l8⟩ := zl_200s
        rw [t2, zx_nat]
        refine zok_if (fun h => ?_) (fun h0 => zok_if (fun h => ?_) (fun h1 => zok_if (fun h => ?_) (fun h2 => zok_if (fun h => ?_) (fun h3 => zok_if (fun h => ?_) (fun h4 => zok_if (fun h => ?_) (fun h5 => ?_))))))
        · refine zok_co (v_isLive t4.1 hj) (fun b hb => ?_)
          subst hb
          rw [es, if_pos h]
          cases hl : vLv (qS A) (qT A) j with
          | true => exact zok_f (by decide) (zok_some (cOk.v hA hR hv rfl))
          | false => exact zok_t rfl (zok_some (cOk.v hA hR hv rfl))
        · refine zok_co (v_isTyped (ty := qT A) (j : Int) (by omega) (by omega) (t5 j hj)) (fun b hb => ?_)
          rw [show ((j : Int)).toNat = j from rfl] at hb
          subst hb
          have es2 := es
          rw [if_neg h0, if_pos h] at es2
          rw [es2]
          cases hl : qT A j with
          | true => exact zok_f (by decide) (zok_some (cOk.v hA hR hv rfl))
          | false => exact zok_t rfl (zok_some (cOk.v hA hR hv rfl))
        · refine zok_gd ⟨by omega, by omega⟩ (zok_some (cOk.v hA hR hv ?_))
          rw [es, if_neg h0, if_neg h1, if_pos h, t4.1.2.2.1 j hj]; rfl
        · refine zok_gd ⟨by omega, by omega⟩ (zok_some (cOk.v hA hR hv ?_))
          rw [es, if_neg h0, if_neg h1, if_neg h2, if_pos h, t4.1.2.1 j hj]; rfl
        · refine zok_co (v_place t9 (qO_len hA hq) j) (fun r hr => zok_some (cOk.v hA hR hv ?_))
          rw [es, if_neg h0, if_neg h1, if_neg h2, if_neg h3, if_pos h, hr]; rfl
        · have := h400 j hj
          rw [t4.2.1 j hj]
          refine zok_gd ⟨by omega, by omega⟩ (zok_gl ⟨by omega, by omega⟩ (zok_some (cOk.v hA hR hv ?_)))
          rw [es, if_neg h0, if_neg h1, if_neg h2, if_neg h3, if_neg h4, if_pos h]; rfl
        · refine zok_co (s_countOf t1 t3 g1 j) (fun r hr => zok_some (cOk.v hA hR hv ?_))
          rw [es, if_neg h0, if_neg h1, if_neg h2, if_neg h3, if_neg h4, if_neg h5, hr]; rfl
    · have es : spField A f w = .inl 2 := by unfold spField; rw [if_neg (fun q => q hf), if_pos hw]
      rw [es]
      refine zok_if (fun h => zok_some (cOk.same hR)) (fun h => zok_f (by omega) (zok_some (cOk.same hR)))
  · rw [c_fld0 hf, zcx_l]
    unfold spField
    rw [if_pos hf]
    exact zok_some (cOk.same hR)
theorem c_value (hA : wA c A) (hR : rC A μ) (f i : Int) : zok (f5_value f i μ) (cOk A μ (cRes [xIO, xIS] (spValue A f i))) := by
  unfold f5_value
  by_cases hf : 0 ≤ f ∧ f < 10
  · rw [c_fld1 hf, zcx_r]
    by_cases hq : qD A = 0
    · rw [c_inner0 hR hq, zcx_l]
      unfold spValue
      rw [if_neg (fun q => q hf), if_pos hq]
      exact zok_some (cOk.same hR)
    · obtain ⟨m, t, e, hv, t1, t2, t3, t4, t5, t6, t7, t8, t9⟩ := c_inn hA hR hq
      obtain ⟨g1, g2, g3, g4, g5, g6, g7, g8, g9, g10⟩ := q_facts hA hq
      rw [e, zcx_r]
      obtain ⟨j, rfl⟩ : ∃ j : Nat, f = j := ⟨f.toNat, by omega⟩
      have hj : j < 10 := by omega
      refine zok_cm (v_values (tx := qX A) t1 t2 t3 g1 t4 g2 g3 (fun f hf _ => t7 f hf)) (fun m3 h3 => ?_)
      have hlen : vL (qS A) (qT A) (qN A) j = (vV (qS A) (qT A) (qX A) j).length := (vV_len (qS A) (qT A) (qX A) j).symm
      refine zok_co (v_byteAt (S := qS A) (ty := qT A) (tx := qX A) hj ?_ (h3.2 j hj) (vV_400 g1 g2 g3 hj) i) (fun r hr => zok_some (cOk.v hA hR (hv.tr (h3.1.mono (fun c hc => by omega))) ?_))
      · rw [(h3.1 205 (by decide) j).2.1, t4.2.1 j hj, hlen]
      · unfold spValue
        rw [if_neg (fun q => q hf), if_neg hq, hr]; rfl
  · rw [c_fld0 hf, zcx_l]
    unfold spValue
    rw [if_pos hf]
    exact zok_some (cOk.same hR)
theorem c_occurrence (hA : wA c A) (hR : rC A μ) (o w : Int) : zok (f5_occurrence o w μ) (cOk A μ (cRes [xIS, xIO, xIA] (spOcc A o w))) := by
  unfold f5_occurrence f5_occurrence_24
  by_cases hq : qD A = 0
  · rw [c_inner0 hR hq, zcx_l]
    unfold spOcc
    rw [if_pos hq]
    exact zok_some (cOk.same hR)
  · obtain ⟨m, t, e, hv, t1, t2, t3, t4, t5, t6, t7, t8, t9⟩ := c_inn hA hR hq
    obtain ⟨g1, g2, g3, g4, g5, g6, g7, g8, g9, g10⟩ := q_facts hA hq
    have h400 := fun f hf => vL_400 (ln := qN A) g1 (fun f hf => Nat.le_trans (g2 f hf) (by decide)) g3 (f := f) hf
    obtain ⟨l1, l2, l3, l4, l5, l6, l7, l8⟩ := zl_200s
    obtain ⟨q1, q2, q3, q4, q5, q6, q7, q8, q9, q10, q11, q12, q13, -⟩ := t1.f
    have hn := g1.1
    rw [e, zcx_r, t2, t3.2.2.1]
    by_cases ho : 0 ≤ o ∧ o < sN (qS A)
    · refine zok_f (by omega) (zok_t ho.2 ?_)
      obtain ⟨j, rfl⟩ : ∃ j : Nat, o = j := ⟨o.toNat, by omega⟩
      have hj : j < sN (qS A) := by omega
      have hx := t3.2.2.2.1 j hj
      obtain ⟨f1, f2, f3, f4, f5, -⟩ := g1.2.2.2.1 j hj
      have hvl : ∀ o, o < sN (qS A) → zL m 205 (sF (qS A) o).toNat = (vL (qS A) (qT A) (qN A) (sF (qS A) o).toNat : Nat) := fun o ho => t4.2.1 _ (by have := g1.2.2.2.1 o ho; omega)
      have hb : ∀ f, f < 10 → vL (qS A) (qT A) (qN A) f ≤ 1000000000000000 := fun f hf => by have := h400 f hf; omega
      have es : ¬ w < 0 → w ≤ 7 → spOcc A (j : Int) w = .inr (if w = 0 then sF (qS A) j else if w = 1 then sC (qS A) j else if w = 2 then sD (qS A) j else if w = 3 then sP (qS A) j else if w = 4 then zb (vSh (qS A) (qT A) j) else if w = 5 then zb (decide (vSd (qS A) (qT A) (sF (qS A) j).toNat = (j : Int))) else if w = 6 then (chgN (sC (qS A) j) (vL (qS A) (qT A) (qN A) (sF (qS A) j).toNat) : Nat) else vStart (qS A) (qT A) (vL (qS A) (qT A) (qN A)) j) := fun h1 h2 => by
        unfold spOcc
        rw [if_neg hq, if_neg (fun q => q ho), if_neg (by omega)]; rfl
      rw [q3, q5, q6, q7, q8, zx_nat, hx.1, hx.2.1, hx.2.2.1, hx.2.2.2.1, t4.1.1 j hj]
      refine zok_if (fun h => ?_) (fun h0 => zok_if (fun h => ?_) (fun h1 => zok_if (fun h => ?_) (fun h2 => zok_if (fun h => ?_) (fun h3 => zok_if (fun h => ?_) (fun h4 => zok_if (fun h => ?_) (fun h5 => zok_if (fun h => ?_) (fun h6 => zok_if (fun h => ?_) (fun h7 => ?_))))))))
      · refine zok_gd ⟨by omega, by omega⟩ (zok_some (cOk.v hA hR hv ?_))
        rw [es (by omega) (by omega), if_pos h]; rfl
      · refine zok_gd ⟨by omega, by omega⟩ (zok_some (cOk.v hA hR hv ?_))
        rw [es (by omega) (by omega), if_neg h0, if_pos h]; rfl
      · refine zok_gd ⟨by omega, by omega⟩ (zok_if (fun h9 => zok_some (cOk.v hA hR hv ?_)) (fun h9 => zok_some (cOk.v hA hR hv ?_)))
        · rw [es (by omega) (by omega), if_neg h0, if_neg h1, if_pos h, h9]; rfl
        · rw [es (by omega) (by omega), if_neg h0, if_neg h1, if_pos h, f5.resolve_left h9]; rfl
      · refine zok_gd ⟨by omega, by omega⟩ (zok_some (cOk.v hA hR hv ?_))
        rw [es (by omega) (by omega), if_neg h0, if_neg h1, if_neg h2, if_pos h]; rfl
      · have es2 := es (by omega) (by omega)
        rw [if_neg h0, if_neg h1, if_neg h2, if_neg h3, if_pos h] at es2
        rw [es2]
        refine zok_gd ⟨by omega, by omega⟩ ?_
        cases hs : vSh (qS A) (qT A) j with
        | true => exact zok_f (by decide) (zok_some (cOk.v hA hR hv rfl))
        | false => exact zok_t rfl (zok_some (cOk.v hA hR hv rfl))
      · have es2 := es (by omega) (by omega)
        rw [if_neg h0, if_neg h1, if_neg h2, if_neg h3, if_neg h4, if_pos h] at es2
        rw [es2]
        refine zok_co (v_isDef t1 t2 (show j < 60 by omega) (f := (sF (qS A) j).toNat) (by omega) (by rw [hx.1]; omega)) (fun b hb2 => ?_)
        rw [t4.1.2.1 _ (by omega)] at hb2
        subst hb2
        by_cases hd : vSd (qS A) (qT A) (sF (qS A) j).toNat = (j : Int)
        · rw [decide_eq_true hd]; exact zok_f (by decide) (zok_some (cOk.v hA hR hv rfl))
        · rw [decide_eq_false hd]; exact zok_t rfl (zok_some (cOk.v hA hR hv rfl))
      · refine zok_co (v_chl (v := vL (qS A) (qT A) (qN A)) t1 t2 t3 g1 hj (hvl j hj) (hb _ (by omega))) (fun r hr => ?_)
        have := chgN_le (sC (qS A) j) (vL (qS A) (qT A) (qN A) (sF (qS A) j).toNat)
        have := h400 (sF (qS A) j).toNat (by omega)
        rw [hr]
        refine zok_gl ⟨by omega, by omega⟩ (zok_some (cOk.v hA hR hv ?_))
        rw [es (by omega) (by omega), if_neg h0, if_neg h1, if_neg h2, if_neg h3, if_neg h4, if_neg h5, if_pos h]; rfl
      · refine zok_co (v_startOf (ty := qT A) (v := vL (qS A) (qT A) (qN A)) t1 t2 t3 g1 hj ?_ hvl hb (fun hs => ?_)) (fun r hr => zok_some (cOk.v hA hR hv ?_))
        · rw [t4.1.1 j hj]
          cases vSh (qS A) (qT A) j <;> simp [zb]
        · have := vStF_text g1 (qT A) (qN A) 5 j hj hs
          omega
        · rw [es (by omega) (by omega), if_neg h0, if_neg h1, if_neg h2, if_neg h3, if_neg h4, if_neg h5, if_neg h6, hr]; rfl
      · refine zok_some (cOk.v hA hR hv ?_)
        unfold spOcc
        rw [if_neg hq, if_neg (fun q => q ho), if_pos (by omega)]; rfl
    · have es : spOcc A o w = .inl 2 := by unfold spOcc; rw [if_neg hq, if_pos ho]
      rw [es]
      exact zok_if (fun h => zok_some (cOk.v hA hR hv rfl)) (fun h => zok_f (by omega) (zok_some (cOk.v hA hR hv rfl)))
theorem c_text (hA : wA c A) (hR : rC A μ) (i : Int) : zok (f5_text i μ) (cOk A μ (cRes [xIS] (spText A i))) := by
  unfold f5_text
  by_cases hq : qD A = 0
  · rw [c_inner0 hR hq, zcx_l]
    unfold spText
    rw [if_pos hq]
    exact zok_some (cOk.same hR)
  · obtain ⟨m, t, e, hv, t1, t2, t3, t4, t5, t6, t7, t8, t9⟩ := c_inn hA hR hq
    obtain ⟨g1, g2, g3, g4, g5, g6, g7, g8, g9, g10⟩ := q_facts hA hq
    have hlen : (vTx (qS A) (qT A) (qX A)).length = vTL (qS A) (qT A) (qN A) := vTx_len (qS A) (qT A) (qX A)
    have es : spText A i = .inr (if 0 ≤ i ∧ i < (vTx (qS A) (qT A) (qX A)).length then (vTx (qS A) (qT A) (qX A)).getD i.toNat 0 else -1) := by unfold spText; rw [if_neg hq]
    rw [e, zcx_r, t4.2.2]
    refine zok_if (fun h => zok_some (cOk.v hA hR hv ?_)) (fun h => zok_lt (zok_if (fun h2 => ?_) (fun h2 => zok_some (cOk.v hA hR hv ?_))))
    · rw [es, if_neg (by omega)]; rfl
    · have h3 : ¬ ((vTL (qS A) (qT A) (qN A) : Nat) : Int) ≤ i := fun q => by have := zcmp_ge.mpr q; omega
      refine zok_cm (v_text (tx := qX A) t1 t2 t3 g1 t4 g2 g3 (fun f hf _ => t7 f hf)) (fun m3 h4 => zok_gd ⟨by omega, by rw [zl_200s.2.2.2.2.2.2.2]; omega⟩ (zok_some (cOk.v hA hR (hv.tr (h4.1.mono (fun c hc => by omega))) ?_)))
      rw [es, if_pos (by omega), show zx i = i.toNat from rfl, h4.2 i.toNat (by omega)]; rfl
    · have h3 : ((vTL (qS A) (qT A) (qN A) : Nat) : Int) ≤ i := zcmp_ge.mp (by omega)
      rw [es, if_neg (by omega)]; rfl
theorem c_orderAt (hA : wA c A) (hR : rC A μ) (i : Int) : zok (f5_orderAt i μ) (cOk A μ (cRes [xIS] (spOrderAt A i))) := by
  unfold f5_orderAt
  by_cases hq : qD A = 0
  · rw [c_inner0 hR hq, zcx_l]
    unfold spOrderAt
    rw [if_pos hq]
    exact zok_some (cOk.same hR)
  · obtain ⟨m, t, e, hv, t1, t2, t3, t4, t5, t6, t7, t8, t9⟩ := c_inn hA hR hq
    have hl := qO_len hA hq
    have es : spOrderAt A i = .inr (if 0 ≤ i ∧ i < (qO A).length then ((qO A).getD i.toNat 0 : Nat) else -1) := by unfold spOrderAt; rw [if_neg hq]
    rw [e, zcx_r, t9.1]
    refine zok_if (fun h => zok_some (cOk.v hA hR hv ?_)) (fun h => zok_if (fun h2 => zok_some (cOk.v hA hR hv ?_)) (fun h2 => zok_gd ⟨by omega, by rw [zl_200s.2.2.2.2.2.1]; omega⟩ (zok_some (cOk.v hA hR hv ?_))))
    · rw [es, if_neg (by omega)]; rfl
    · rw [es, if_neg (by omega)]; rfl
    · rw [es, if_pos (by omega), show zx i = i.toNat from rfl, t9.2 _ (by omega)]; rfl
theorem c_why (hA : wA c A) (hR : rC A μ) (f : Int) : zok (f5_why f μ) (cOk A μ (cRes [xIO, xIS] (spWhy A f))) := by
  unfold f5_why
  by_cases hf : 0 ≤ f ∧ f < 10
  · rw [c_fld1 hf, zcx_r]
    by_cases hq : qD A = 0
    · rw [c_inner0 hR hq, zcx_l]
      unfold spWhy
      rw [if_neg (fun q => q hf), if_pos hq]
      exact zok_some (cOk.same hR)
    · obtain ⟨m, t, e, hv, t1, t2, t3, t4, t5, t6, t7, t8, t9⟩ := c_inn hA hR hq
      obtain ⟨j, rfl⟩ : ∃ j : Nat, f = j := ⟨f.toNat, by omega⟩
      rw [e, zcx_r]
      refine zok_co (v_why t1 t2 t3 (q_facts hA hq).1 t4.1 t5 (show j < 10 by omega)) (fun r hr => zok_some (cOk.v hA hR hv ?_))
      unfold spWhy
      rw [if_neg (fun q => q hf), if_neg hq, hr]; rfl
  · rw [c_fld0 hf, zcx_l]
    unfold spWhy
    rw [if_pos hf]
    exact zok_some (cOk.same hR)
theorem c_yielded (hA : wA c A) (hR : rC A μ) : zok (f5_yielded μ) (cOk A μ (cRes [xIS] (spYielded A))) := by
  unfold f5_yielded spYielded
  by_cases hq : qD A = 0
  · rw [c_inner0 hR hq, zcx_l, if_pos hq]; exact zok_some (cOk.same hR)
  · obtain ⟨m, t, e, hv, t1, t2, t3, t4, t5, t6, t7, t8, t9⟩ := c_inn hA hR hq
    rw [e, zcx_r, if_neg hq]
    exact zok_co (v_yield t1 t2 t3 (q_facts hA hq).1 t4.1) (fun r hr => zok_some (cOk.v hA hR hv (by rw [hr]; rfl)))
theorem c_mirrored (hA : wA c A) (hR : rC A μ) : zok (f5_mirrored μ) (cOk A μ (cRes [xIS] (spMirrored A))) := by
  unfold f5_mirrored spMirrored
  by_cases hq : qD A = 0
  · rw [c_inner0 hR hq, zcx_l, if_pos hq]; exact zok_some (cOk.same hR)
  · obtain ⟨m, t, e, hv, t1, t2, t3, t4, t5, t6, t7, t8, t9⟩ := c_inn hA hR hq
    rw [e, zcx_r, if_neg hq]
    exact zok_co (v_mirr t4.1) (fun r hr => zok_some (cOk.v hA hR hv (by rw [hr]; rfl)))
theorem c_longest (hA : wA c A) (hR : rC A μ) : zok (f5_longest μ) (cOk A μ (cRes [xIS] (spLongest A))) := by
  unfold f5_longest spLongest
  by_cases hq : qD A = 0
  · rw [c_inner0 hR hq, zcx_l, if_pos hq]; exact zok_some (cOk.same hR)
  · obtain ⟨m, t, e, hv, t1, t2, t3, t4, t5, t6, t7, t8, t9⟩ := c_inn hA hR hq
    rw [e, zcx_r, if_neg hq]
    exact zok_co (v_longest t4.1 t4.2.1) (fun r hr => zok_some (cOk.v hA hR hv (by rw [hr]; rfl)))
theorem nLv_pos (hA : wA c A) (hq : qD A ≠ 0) : 0 < nLv A ∧ nLv A < 11 ∧ nUt A < 11 := by
  obtain ⟨g1, g2, g3, g4, g5, -⟩ := q_facts hA hq
  have h1 := cnt_le (fun i => vLv (qS A) (qT A) i) 10
  have h2 := cnt_le (fun i => vLv (qS A) (qT A) i && !qT A i) 10
  refine ⟨cnt_pos.mpr ⟨qC A, g4, g5⟩, ?_, ?_⟩
  · unfold nLv; omega
  · unfold nUt; omega
theorem lv_bc {S : zSn} {ty : Nat → Bool} {x : Int} (hW : wS S) (hz : zr x) (hb : ∀ i, i < 32 → mbit x i = vLv S ty i) : zok (fJ_bitCount x) (fun r => r = (cnt (fun i => vLv S ty i) 10 : Nat)) :=
  zok_mono (v_bc hz (fun i h1 h2 => by rw [hb i h2, vLv_10 hW ty i h1])) (fun r hr => by rw [hr, cnt_congr (fun i hi => hb i (by omega))])
theorem c_untouched (hA : wA c A) (hR : rC A μ) : zok (f5_untouched μ) (cOk A μ (cRes [xIS] (spUntouched A))) := by
  unfold f5_untouched spUntouched
  by_cases hq : qD A = 0
  · rw [c_inner0 hR hq, zcx_l, if_pos hq]; exact zok_some (cOk.same hR)
  · obtain ⟨m, t, e, hv, t1, t2, t3, t4, t5, t6, t7, t8, t9⟩ := c_inn hA hR hq
    obtain ⟨g1, g2, g3, g4, g5, g6, g7, g8, g9, g10⟩ := q_facts hA hq
    obtain ⟨p1, p2, p3⟩ := nLv_pos hA hq
    rw [e, zcx_r, if_neg hq]
    refine zok_co (lv_bc g1 t4.1.2.2.2.1 t4.1.2.2.2.2) (fun r hr => zok_lt (zok_lt ?_))
    subst hr
    have hb : ∀ i, i < 32 → mbit (zand (zI m 200 3) (zxor (zI m 200 1) (-1))) i = (vLv (qS A) (qT A) i && !mbit (tY (aS A) (qD A - 1)) i) := fun i hi => by rw [mbit_and, mbit_not _ hi, t4.1.2.2.2.2 i hi, t6]
    refine zok_co (v_bc (zr_of _) (fun i h1 h2 => by rw [hb i h2, vLv_10 g1 (qT A) i h1]; rfl)) (fun r hr => ?_)
    rw [cnt_congr (fun i (hi : i < 10) => hb i (by omega))] at hr
    have hr' : r = (nUt A : Nat) := hr
    subst hr'
    have p1' : cnt (fun i => vLv (qS A) (qT A) i) 10 = nLv A := rfl
    rw [p1']
    exact zok_f (by omega) (zok_gd (nan_f _ p3 _ p2 p1) (zok_some (cOk.v hA hR hv rfl)))
theorem vSum_le {S : zSn} (hW : wS S) {ty : Nat → Bool} {ln : Nat → Nat} (hl : ∀ f, f < 10 → ln f ≤ 400) (hT : vTL S ty ln ≤ 400) : vSum S ty ln ≤ 4000 := by
  have := sumN_le (g := fun f => if vLv S ty f = true then vL S ty ln f else 0) (n := 10) (b := 400) (fun i hi => by
    have := vL_400 hW hl hT hi
    show (if _ then _ else _) ≤ _
    split <;> omega)
  unfold vSum
  omega
theorem c_meanLength (hA : wA c A) (hR : rC A μ) : zok (f5_meanLength μ) (cOk A μ (cRes [xIS] (spMean A))) := by
  unfold f5_meanLength spMean
  by_cases hq : qD A = 0
  · rw [c_inner0 hR hq, zcx_l, if_pos hq]; exact zok_some (cOk.same hR)
  · obtain ⟨m, t, e, hv, t1, t2, t3, t4, t5, t6, t7, t8, t9⟩ := c_inn hA hR hq
    obtain ⟨g1, g2, g3, g4, g5, g6, g7, g8, g9, g10⟩ := q_facts hA hq
    obtain ⟨p1, p2, p3⟩ := nLv_pos hA hq
    have h40 : ∀ f, f < 10 → qN A f ≤ 400 := fun f hf => Nat.le_trans (g2 f hf) (by decide)
    have hs := vSum_le g1 h40 g3
    rw [e, zcx_r, if_neg hq]
    refine zok_co (lv_bc g1 t4.1.2.2.2.1 t4.1.2.2.2.2) (fun r hr => ?_)
    have hr' : r = (nLv A : Nat) := hr
    subst hr'
    refine zok_f (by omega) (zok_co (v_sum t4.1 t4.2.1 (fun f hf => by have := vL_400 g1 h40 g3 hf; omega)) (fun r hr => ?_))
    subst hr
    rw [l2d_i2d (by omega)]
    exact zok_gd (nan_d p2 p1 (by omega)) (zok_some (cOk.v hA hR hv rfl))
/-- the view looks at some snippet -/
def vAny (m : zM) : Prop := ∃ t S ty, okT t ∧ zR m 200 0 = t ∧ pSc m t S ∧ wS S ∧ vShown S ty m
/-- the TEXT if a field had been typed with so many bytes -/
theorem c_tit (hB : wB A) (hR : rC A μ) {l f n : Nat} (hl : l < tD (aS A)) (hf : f < 10) (hn : n ≤ 400) : zok (f5_textIfTyped (l : Int) (f : Int) (n : Int) μ) (fun r => r.1 = (vTL (hS (aL A) (aS A) l) (onT (hT (aS A) l) f) (updN (hN (aS A) l) f n) : Nat) ∧ vOnly μ r.2 ∧ vAny r.2) := by
  obtain ⟨m1, e1, h1, t, t1, t2, t3, t4, t5, t6⟩ := c_take hB hR hl
  unfold f5_textIfTyped
  rw [e1, zcm_s]
  refine zok_cm (v_supp hf (n : Int)) (fun m2 h2 => ?_)
  obtain ⟨a1, a2, a3, a4⟩ := h2
  refine zok_cm (v_measure (ty := onT (hT (aS A) l) f) (ln := updN (hN (aS A) l) f n) t1 (a2.trans t2) (pSc_v t1 a1 (fun c hc => by omega) t3) (hB.S hl) (fun g hg => ?_) (fun g hg _ => ?_) (fun g hg => ?_)) (fun m3 h3 => zok_some ⟨h3.1.2.2, ?_, t, _, _, t1, (h3.2.2.1 0).trans (a2.trans t2), pSc_v t1 h3.2.1 (fun c hc => by unfold vC2; omega) (pSc_v t1 a1 (fun c hc => by omega) t3), hB.S hl, h3.1.1⟩)
  · rw [a3, t4, mb_on hf]; rfl
  · rw [a4, t5 g hg]
    unfold updN
    by_cases e : g = f
    · rw [if_pos e, if_pos e]
    · rw [if_neg e, if_neg e]; rfl
  · unfold updN
    have := hN_40 hB hl g hg
    split <;> omega
  · exact h1.tr ((a1.mono (fun c hc => by omega)).tr (h3.2.1.mono (fun c hc => by unfold vC2; omega)))
theorem c_byt1 {n : Int} (h : 1 ≤ n ∧ n ≤ 20) : f5_requireBytesAtOnce n μ = some (.inr (), μ) := by
  unfold f5_requireBytesAtOnce
  rw [if_neg (by omega), if_pos (by omega)]
theorem c_byt0 {n : Int} (h : ¬ (1 ≤ n ∧ n ≤ 20)) : f5_requireBytesAtOnce n μ = some (.inl xIA, μ) := by
  unfold f5_requireBytesAtOnce f5_requireBytesAtOnce_11
  by_cases e : n < 1
  · rw [if_pos e]; rfl
  · rw [if_neg e, if_neg (by omega)]; rfl
theorem c_lengthIf (hA : wA c A) (hR : rC A μ) (n : Int) : zok (f5_lengthIf n μ) (cOk A μ (cRes [xIA, xIS] (spLengthIf A n))) := by
  unfold f5_lengthIf
  by_cases hn : 1 ≤ n ∧ n ≤ 20
  · rw [c_byt1 hn, zcx_r]
    have e1 : zI μ 193 1 = (qD A : Nat) := hR.2.1.2.1
    by_cases hq : qD A = 0
    · unfold f5_requireSession spLengthIf
      rw [e1, if_pos (show ((qD A : Nat) : Int) = 0 by omega), zcx_l, if_neg (fun q => q hn), if_pos hq]
      exact zok_some (cOk.same hR)
    · obtain ⟨g1, g2, g3, g4, g5, g6, g7, g8, g9, g10⟩ := q_facts hA hq
      have hl : qD A - 1 < tD (aS A) := by show qD A - 1 < qD A; omega
      have e2 : f5_requireSession μ = some (.inr (((qD A - 1 : Nat)) : Int), μ) := by
        unfold f5_requireSession zgl
        rw [e1, if_neg (by omega), if_pos (show zr (((qD A : Nat) : Int) - 1) from ⟨by omega, by omega⟩)]
        rw [show ((qD A : Nat) : Int) - 1 = ((qD A - 1 : Nat) : Int) by omega]
      have es : spLengthIf A n = .inr (if qN A (qC A) + n.toNat > 40 then -1 else if vTL (qS A) (onT (qT A) (qC A)) (updN (qN A) (qC A) (qN A (qC A) + n.toNat)) > 400 then -1 else (vTL (qS A) (onT (qT A) (qC A)) (updN (qN A) (qC A) (qN A (qC A) + n.toNat)) : Nat)) := by unfold spLengthIf; rw [if_neg (fun q => q hn), if_neg hq]
      rw [e2, zcx_r, zx_nat, show zI μ 195 (qD A - 1) = _ from (hR.2.1.2.2.2.1 _ hl).2.1, g7]
      refine zok_gd ⟨by omega, by rw [zln_c.2.2.2.2.2.2.1]; omega⟩ (zok_lt (zok_co (s_typedLength okC_all.1 hR.2.1 hA.2.1.1 hl g4) (fun r hr => ?_)))
      have hr' : r = (qN A (qC A) : Nat) := hr
      subst hr'
      have h40 : qN A (qC A) ≤ 40 := g2 _ g4
      refine zok_gl ⟨by omega, by omega⟩ (zok_if (fun h => ?_) (fun h => zok_some ?_))
      · have hc := c_tit hA.B hR hl g4 (n := qN A (qC A) + n.toNat) (by omega)
        rw [show ((qN A (qC A) + n.toNat : Nat) : Int) = (qN A (qC A) : Int) + n by omega] at hc
        refine zok_cl hc (fun x m hx => zok_lt ?_)
        have hx1 : x = (vTL (qS A) (onT (qT A) (qC A)) (updN (qN A) (qC A) (qN A (qC A) + n.toNat)) : Nat) := hx.1
        rw [hx1]
        refine zok_if (fun h2 => ?_) (fun h2 => zok_some (cOk.v hA hR hx.2.1 ?_))
        · have h3 := zcmp_le.mp h2
          refine zok_gl ⟨by omega, by omega⟩ (zok_some (cOk.v hA hR hx.2.1 ?_))
          rw [es, if_neg (by omega), if_neg (by omega)]; rfl
        · have h3 : ¬ ((vTL (qS A) (onT (qT A) (qC A)) (updN (qN A) (qC A) (qN A (qC A) + n.toNat)) : Nat) : Int) ≤ 400 := fun q => h2 (zcmp_le.mpr q)
          rw [es, if_neg (by omega), if_pos (by omega)]; rfl
      · rw [es, if_pos (by omega)]; exact cOk.same hR
  · rw [c_byt0 hn, zcx_l]
    unfold spLengthIf
    rw [if_pos hn]
    exact zok_some (cOk.same hR)
theorem c_wouldHide (hA : wA c A) (hR : rC A μ) (f : Int) : zok (f5_wouldHide f μ) (cOk A μ (cRes [xIO, xIS] (spWouldHide A f))) := by
  unfold f5_wouldHide
  by_cases hf : 0 ≤ f ∧ f < 10
  · rw [c_fld1 hf, zcx_r]
    by_cases hq : qD A = 0
    · rw [c_inner0 hR hq, zcx_l]
      unfold spWouldHide
      rw [if_neg (fun q => q hf), if_pos hq]
      exact zok_some (cOk.same hR)
    · obtain ⟨m, t, e, hv, t1, t2, t3, t4, t5, t6, t7, t8, t9⟩ := c_inn hA hR hq
      obtain ⟨g1, g2, g3, g4, g5, g6, g7, g8, g9, g10⟩ := q_facts hA hq
      obtain ⟨j, rfl⟩ : ∃ j : Nat, f = j := ⟨f.toNat, by omega⟩
      have hj : j < 10 := by omega
      have es : spWouldHide A (j : Int) = .inr (if qT A j = true then 0 else setI (fun i => vLv (qS A) (qT A) i && !vLv (qS A) (onT (qT A) j) i) 10) := by unfold spWouldHide; rw [if_neg (fun q => q hf), if_neg hq]; rfl
      rw [e, zcx_r]
      refine zok_co (v_isTyped (ty := qT A) (j : Int) (by omega) (by omega) (t5 j hj)) (fun b hb => ?_)
      rw [show ((j : Int)).toNat = j from rfl] at hb
      subst hb
      cases hT : qT A j with
      | true => exact zok_f (by decide) (zok_some (cOk.v hA hR hv (by rw [es, if_pos hT]; rfl)))
      | false =>
        refine zok_t rfl (zok_lt (zok_cm (v_supp hj 0) (fun m2 h2 => ?_)))
        obtain ⟨a1, a2, a3, a4⟩ := h2
        refine zok_cm (v_measure (ty := onT (qT A) j) (ln := updN (qN A) j 0) t1 (a2.trans t2) (pSc_v t1 a1 (fun c hc => by omega) t3) g1 (fun g hg => ?_) (fun g hg _ => ?_) (fun g hg => ?_)) (fun m3 h3 => zok_lt (zok_lt (zok_some (cOk.v hA hR ?_ ?_))))
        · rw [a3, mb_on hj]
          unfold onT
          by_cases e : g = j
          · rw [if_pos e, if_pos e]
          · rw [if_neg e, if_neg e]; exact t5 g hg
        · rw [a4, t8 g hg]
          unfold updN
          by_cases e : g = j
          · rw [if_pos e, if_pos e]; rfl
          · rw [if_neg e, if_neg e]; rfl
        · unfold updN
          have := g2 g hg
          have e9 : qN A g = (qX A g).length := rfl
          split <;> omega
        · exact hv.tr ((a1.mono (fun c hc => by omega)).tr (h3.2.1.mono (fun c hc => by unfold vC2; omega)))
        · rw [es, if_neg (by rw [hT]; decide)]
          show Sum.inr _ = Sum.inr _
          congr 1
          refine setI_eq (zr_of _) (fun i hi => ?_) (fun i hi => by rw [vLv_10 g1 (qT A) i hi]; rfl)
          rw [mbit_and, mbit_not _ hi, t4.1.2.2.2.2 i hi, h3.1.1.2.2.2.2 i hi]
  · rw [c_fld0 hf, zcx_l]
    unfold spWouldHide
    rw [if_pos hf]
    exact zok_some (cOk.same hR)
/-- the view measures an untouched snippet -/
theorem c_bare {t : Nat} {S : zSn} (t1 : okT t) (t3 : pSc μ t S) (hW : wS S) : ∃ m1 m2, f4_takeUntouched t μ = some m1 ∧ f4_measure m1 = some m2 ∧ vOnly μ m2 ∧ zR m2 200 0 = t ∧ pSc m2 t S ∧ vMs S (fun _ => false) (fun _ => 0) m2 := by
  obtain ⟨m1, e1, a1, a2, a3⟩ := v_bare (μ := μ) (t := t)
  have h3 := pSc_v t1 a1 (fun c hc => by omega) t3
  obtain ⟨m2, e2, b1, b2⟩ := v_measure (ty := fun _ => false) (ln := fun _ => 0) t1 a2 h3 hW (fun f _ => by rw [a3, mbit_0]) (fun f _ h => absurd h (by decide)) (fun f _ => by decide)
  exact ⟨m1, m2, e1, e2, (a1.mono (fun c hc => by omega)).tr (b2.1.mono (fun c hc => by unfold vC2; omega)), (b2.2.1 0).trans a2, pSc_v t1 b2.1 (fun c hc => by unfold vC2; omega) h3, b1⟩
theorem c_lengthOf (hA : wA c A) (hR : rC A μ) (k : Int) : zok (f5_lengthOf k μ) (cOk A μ (cRes [xIO] (spLengthOf A k))) := by
  unfold f5_lengthOf spLengthOf
  by_cases h : 0 ≤ k ∧ k < aN A
  · obtain ⟨t, t1, t2, t3, t4⟩ := c_sn1 hA hR h
    obtain ⟨m1, m2, e1, e2, h1, h2, h3, h4⟩ := c_bare t1 t3 t4
    rw [t2, zcx_r, e1, zcm_s, e2, zcm_s, if_neg (fun q => q h), h4.2.2]
    refine zok_lt (zok_gl ⟨by omega, by omega⟩ (zok_some (cOk.v hA hR h1 ?_)))
    show Sum.inr _ = Sum.inr _
    congr 1
    omega
  · rw [c_sn0 hR h, zcx_l, if_pos h]; exact zok_some (cOk.same hR)
end cAsk2
