/-! THE REFERENCE'S QUESTIONS of the innermost session -/
section mFace2
variable {A : zA} {c : Int} {μ : zM}
/-- what a laid session has -/
theorem n_inn (hA : wA c A) (hq : qD A ≠ 0) {m : zM} (hk : mLk (aL A) (aS A) (qD A - 1) m) : ∃ b k, mCx m b k (qS A) (qT A) ((604 + 413 * (qD A - 1) : Nat) : Int) ∧ mShown (qS A) (qT A) m ∧ mMe (qS A) (qT A) (qX A) m ∧ (∀ f, f < 10 → zI m 335 f = 0) ∧ mTxs m (qT A) (qX A) ((604 + 413 * (qD A - 1) : Nat) : Int) ∧ (∀ f, f < 10 → qT A f = true → zI m 293 ((((604 + 413 * (qD A - 1) : Nat) : Int)).toNat + 3 + f) = qN A f) ∧ zI m 293 1 = tO (aS A) := by
  obtain ⟨b, k, h1, h2, h3, h4, h5, h6⟩ := hk
  exact ⟨b, k, h1, h2, h3, h4, h5, fun f hf ht => (h5 f hf ht).1, h6⟩
theorem qN_4 (hA : wA c A) (hq : qD A ≠ 0) : ∀ f, f < 10 → qN A f ≤ 400 := fun f hf => Nat.le_trans ((q_facts hA hq).2.1 f hf) (by decide)
theorem n_field (hA : wA c A) (hR : rM A μ) (f w : Int) : zok (f7_field f w μ) (mOk A μ (spField A f w)) := by
  obtain ⟨hR1, h0⟩ := z0 hR
  unfold f7_field
  refine zok_lt ?_
  rw [isf_eq, zco_s]
  by_cases hf : 0 ≤ f ∧ f < 10
  · rw [decide_eq_true (by omega)]
    refine zok_f (by decide) ?_
    unfold f7_field_18
    rw [thr0 h0, zcl_s]
    refine zok_t rfl ?_
    rw [win_eq, zco_s]
    by_cases hw : 0 ≤ w ∧ w ≤ 6
    · rw [decide_eq_true hw]
      refine zok_f (by decide) ?_
      unfold f7_field_41
      rw [thr0 h0, zcl_s]
      refine zok_t rfl ?_
      by_cases hq : qD A = 0
      · rw [nss0 hR1 h0 hq (by decide), zcl_s]
        refine zok_f (by decide) (zok_some ?_)
        have es : spField A f w = .inl 3 := by unfold spField; rw [if_neg (fun q => q hf), if_neg (fun q => q hw), if_pos hq]
        rw [es]
        exact mOk.x hR mScr.rf 3
      · obtain ⟨m4, e4, hk4, hs4⟩ := nss1 hA hR1 h0 hq 3
        rw [e4, zcl_s]
        refine zok_t rfl ?_
        obtain ⟨g1, g2, g3, g4, g5, g6, g7, g8, g9, g10⟩ := q_facts hA hq
        obtain ⟨b, k, h1, h2, h3, h4, h5, h6, h7⟩ := n_inn hA hq hk4
        refine zok_cm (m_laysLeaving h1 h2 h7 g9) (fun m5 hm5 => ?_)
        have hs5 := hs4.tr hm5.2.scr
        obtain ⟨b, k, h1, h2, h3, h4, h5, h6, h7⟩ := n_inn hA hq (hk4.fo hm5.2)
        obtain ⟨j, rfl⟩ : ∃ j : Nat, f = j := ⟨f.toNat, by omega⟩
        have hj : j < 10 := by omega
        have es : spField A (j : Int) w = .inr (if w = 0 then zb (vLv (qS A) (qT A) j) else if w = 1 then zb (qT A j) else if w = 2 then (vCn (qS A) (qT A) j : Nat) else if w = 3 then vSd (qS A) (qT A) j else if w = 4 then plc (qO A) j else if w = 5 then (vL (qS A) (qT A) (qN A) j : Nat) else (cnt (fun o => decide (sF (qS A) o = (j : Nat))) (sN (qS A)) : Nat)) := by
          unfold spField
          rw [if_neg (fun q => q hf), if_neg (fun q => q hw), if_neg hq]; rfl
        rw [zx_nat]
        refine zok_if (fun h => ?_) (fun e0 => zok_if (fun h => ?_) (fun e1 => zok_if (fun h => ?_) (fun e2 => zok_if (fun h => ?_) (fun e3 => zok_if (fun h => ?_) (fun e4 => zok_if (fun h => ?_) (fun e5 => ?_))))))
        · refine zok_co (m_has _ (j : Int) (by omega) (by omega)) (fun r hr => ?_)
          rw [show ((j : Int)).toNat = j from rfl, h2.2.2.2 j (by omega)] at hr
          subst hr
          rw [es, if_pos h]
          cases hl : vLv (qS A) (qT A) j with
          | true => exact zok_f (by decide) (zok_some (mOk.v hR hs5 rfl))
          | false => exact zok_t rfl (zok_some (mOk.v hR hs5 rfl))
        · refine zok_co (m_isTyped h1 (j : Int) (by omega) (by omega)) (fun r hr => ?_)
          rw [show ((j : Int)).toNat = j from rfl] at hr
          subst hr
          have es2 := es
          rw [if_neg e0, if_pos h] at es2
          rw [es2]
          cases hl : qT A j with
          | true => exact zok_f (by decide) (zok_some (mOk.v hR hs5 rfl))
          | false => exact zok_t rfl (zok_some (mOk.v hR hs5 rfl))
        · refine zok_co (m_shownOf h1 h2 j) (fun r hr => zok_some ?_)
          rw [es, if_neg e0, if_neg e1, if_pos h]; exact mOk.v hR hs5 hr
        · refine zok_gd ⟨by omega, by rw [zl_m2.1]; omega⟩ (zok_some ?_)
          rw [es, if_neg e0, if_neg e1, if_neg e2, if_pos h]; exact mOk.v hR hs5 (h2.2.1 j hj)
        · refine zok_co (m_placeOf hm5.1 (qO_len hA hq) j) (fun r hr => zok_some ?_)
          rw [es, if_neg e0, if_neg e1, if_neg e2, if_neg e3, if_pos h]; exact mOk.v hR hs5 hr
        · refine zok_cl (m_valueLength (ln := qN A) h1 h2 h6 (qN_4 hA hq) hj (⟨zSm.rf, h3⟩ : mJ (qS A) (qT A) (qN A) m5 m5)) (fun r m6 hr => zok_some ?_)
          rw [es, if_neg e0, if_neg e1, if_neg e2, if_neg e3, if_neg e4, if_pos h]
          refine mOk.v hR (hs5.tr hr.2.scr) ?_
          have hr1 : r = (mL (qS A) (qT A) (qN A) j : Int) := hr.1
          rw [hr1, mL_same g1 (qT A) (qN_4 hA hq) (by omega) hj]
        · refine zok_co (m_allOf h1 j) (fun r hr => zok_some ?_)
          rw [es, if_neg e0, if_neg e1, if_neg e2, if_neg e3, if_neg e4, if_neg e5]; exact mOk.v hR hs5 hr
    · rw [decide_eq_false hw]
      refine zok_t rfl ?_
      unfold f7_field_41
      rw [thr1 h0 (by decide), zcl_s]
      refine zok_f (by decide) (zok_some ?_)
      have es : spField A f w = .inl 2 := by unfold spField; rw [if_neg (fun q => q hf), if_pos hw]
      rw [es]
      exact mOk.x hR mScr.rf 2
  · rw [decide_eq_false (by omega)]
    refine zok_t rfl ?_
    unfold f7_field_18
    rw [thr1 h0 (by decide), zcl_s]
    refine zok_f (by decide) (zok_some ?_)
    have es : spField A f w = .inl 1 := by unfold spField; rw [if_pos hf]
    rw [es]
    exact mOk.x hR mScr.rf 1
theorem mRf_outs {m : zM} (v : Int) : mRf m (zsI m 292 29 v) := ⟨zSm.rf.sI (fun q => q.1 rfl), fun _ => rfl, fun i hi => zI_ni hi⟩
/-- the value of a field is written -/
theorem k_value (hA : wA c A) (hq : qD A ≠ 0) {m : zM} (hk : mLk (aL A) (aS A) (qD A - 1) m) {f : Nat} (hf : f < 10) : zok (f7_writesValue 40 (f : Int) (zsI m 292 29 0)) (fun m' => mRf m m' ∧ zI m' 292 29 = ((vV (qS A) (qT A) (qX A) f).length : Int) ∧ ∀ i, i < (vV (qS A) (qT A) (qX A) f).length → zI m' 333 i = (vV (qS A) (qT A) (qX A) f).getD i 0) := by
  obtain ⟨g1, g2, g3, -⟩ := q_facts hA hq
  obtain ⟨b, k, h1, h2, h3, h4, h5, h6, h7⟩ := n_inn hA hq hk
  have hF : mRf m (zsI m 292 29 0) := mRf_outs 0
  refine zok_mono (m_writesValue (hF.cx h1) (hF.sh h2) (hF.txs h5) g2 g3 (fun f hf => by rw [zI_nk (by decide)]; exact h3 f hf) (fun f hf => (zI_nk (by decide)).trans (h4 f hf)) (zI_eq rfl rfl) hf) (fun m' h => ⟨⟨hF.1.tr h.1.1, fun i => (h.1.2.1 i).trans (hF.2.1 i), fun i hi => (h.1.2.2 i hi).trans (hF.2.2 i hi)⟩, ?_, fun i hi => ?_⟩)
  · have := h.2.2.1
    rw [Nat.zero_add] at this
    exact this
  · have := h.2.2.2.1 i hi
    rw [Nat.zero_add] at this
    exact this
theorem n_value (hA : wA c A) (hR : rM A μ) (f i : Int) : zok (f7_value f i μ) (mOk A μ (spValue A f i)) := by
  obtain ⟨hR1, h0⟩ := z0 hR
  unfold f7_value
  refine zok_lt ?_
  rw [isf_eq, zco_s]
  by_cases hf : 0 ≤ f ∧ f < 10
  · rw [decide_eq_true (by omega)]
    refine zok_f (by decide) ?_
    unfold f7_value_18
    rw [thr0 h0, zcl_s]
    refine zok_t rfl ?_
    by_cases hq : qD A = 0
    · rw [nss0 hR1 h0 hq (by decide), zcl_s]
      refine zok_f (by decide) (zok_some ?_)
      have es : spValue A f i = .inl 2 := by unfold spValue; rw [if_neg (fun q => q hf), if_pos hq]
      rw [es]
      exact mOk.x hR mScr.rf 2
    · obtain ⟨m4, e4, hk4, hs4⟩ := nss1 hA hR1 h0 hq 2
      rw [e4, zcl_s]
      obtain ⟨g1, g2, g3, -⟩ := q_facts hA hq
      obtain ⟨j, rfl⟩ : ∃ j : Nat, f = j := ⟨f.toNat, by omega⟩
      have hv4 := vV_400 g1 g2 g3 (show j < 10 by omega)
      have es : spValue A (j : Int) i = .inr (if 0 ≤ i ∧ i < (vV (qS A) (qT A) (qX A) j).length then (vV (qS A) (qT A) (qX A) j).getD i.toNat 0 else -1) := by unfold spValue; rw [if_neg (fun q => q hf), if_neg hq]; rfl
      refine zok_t rfl (zok_lt (zok_cm (k_value hA hq hk4 (show j < 10 by omega)) (fun m5 h5 => ?_)))
      have hs5 := hs4.tr h5.1.scr
      rw [h5.2.1]
      refine zok_gl ⟨by omega, by omega⟩ ?_
      rw [win_eq, zco_s, es]
      by_cases hi : 0 ≤ i ∧ i < (vV (qS A) (qT A) (qX A) j).length
      · rw [decide_eq_true (by omega), if_pos hi]
        exact zok_f (by decide) (zok_gd ⟨by omega, by rw [zl_m2.2.2.1]; omega⟩ (zok_some (mOk.v hR hs5 (h5.2.2 i.toNat (by omega)))))
      · rw [decide_eq_false (by omega), if_neg hi]
        exact zok_t rfl (zok_some (mOk.v hR hs5 rfl))
  · rw [decide_eq_false (by omega)]
    refine zok_t rfl ?_
    unfold f7_value_18
    rw [thr1 h0 (by decide), zcl_s]
    refine zok_f (by decide) (zok_some ?_)
    have es : spValue A f i = .inl 1 := by unfold spValue; rw [if_pos hf]
    rw [es]
    exact mOk.x hR mScr.rf 1
theorem n_occurrence (hA : wA c A) (hR : rM A μ) (o w : Int) : zok (f7_occurrence o w μ) (mOk A μ (spOcc A o w)) := by
  obtain ⟨hR1, h0⟩ := z0 hR
  unfold f7_occurrence
  refine zok_lt ?_
  by_cases hq : qD A = 0
  · rw [nss0 hR1 h0 hq (by decide), zcl_s]
    refine zok_f (by decide) (zok_some ?_)
    have es : spOcc A o w = .inl 1 := by unfold spOcc; rw [if_pos hq]
    rw [es]
    exact mOk.x hR mScr.rf 1
  · obtain ⟨m4, e4, hk4, hs4⟩ := nss1 hA hR1 h0 hq 1
    rw [e4, zcl_s]
    obtain ⟨g1, g2, g3, -⟩ := q_facts hA hq
    obtain ⟨b, k, h1, h2, h3, h4, h5, h6, h7⟩ := n_inn hA hq hk4
    have hn := g1.1
    have hz4 : zI m4 292 0 = 0 := (hs4.2.2 0 (by omega)).trans h0
    refine zok_t rfl (zok_co (m_many h1) (fun r hr => ?_))
    subst hr
    refine zok_gl ⟨by omega, by omega⟩ ?_
    rw [win_eq, zco_s]
    by_cases ho : 0 ≤ o ∧ o < sN (qS A)
    · rw [decide_eq_true (by omega)]
      refine zok_f (by decide) ?_
      unfold f7_occurrence_33
      rw [thr0 hz4, zcl_s]
      refine zok_t rfl ?_
      rw [win_eq, zco_s]
      obtain ⟨j, rfl⟩ : ∃ j : Nat, o = j := ⟨o.toNat, by omega⟩
      have hj : j < sN (qS A) := by omega
      by_cases hw : 0 ≤ w ∧ w ≤ 7
      · rw [decide_eq_true hw]
        refine zok_f (by decide) ?_
        unfold f7_occurrence_56
        rw [thr0 hz4, zcl_s]
        refine zok_t rfl (zok_co (m_of h1 (show j < 60 by omega)) (fun r hr => ?_))
        subst hr
        have h1' := h1
        obtain ⟨c1, c2, c3, c4, c5, c6, c7, c8⟩ := h1'
        obtain ⟨l1, l2, l3, l4, l5, l6, l7, l8, l9, l10, l11, l12, l13⟩ := okB_f c1
        have hx := c7.2.2.2.1 j hj
        obtain ⟨f1, f2, f3, f4, f5, -⟩ := g1.2.2.2.1 j hj
        have es : spOcc A (j : Int) w = .inr (if w = 0 then sF (qS A) j else if w = 1 then sC (qS A) j else if w = 2 then sD (qS A) j else if w = 3 then sP (qS A) j else if w = 4 then zb (vSh (qS A) (qT A) j) else if w = 5 then zb (decide (vSd (qS A) (qT A) (sF (qS A) j).toNat = (j : Int))) else if w = 6 then (chgN (sC (qS A) j) (vL (qS A) (qT A) (qN A) (sF (qS A) j).toNat) : Nat) else vStart (qS A) (qT A) (vL (qS A) (qT A) (qN A)) j) := by
          unfold spOcc
          rw [if_neg hq, if_neg (fun q => q ho), if_neg (fun q => q hw)]; rfl
        rw [c3, l6, l7, l8, l9, zx_nat, zx_nat, hx.1, hx.2.1, hx.2.2.1, hx.2.2.2.1, (h2.1 j hj).1, (h2.1 j hj).2]
        refine zok_if (fun h => zok_gd ⟨by omega, by omega⟩ (zok_some ?_)) (fun e0 => zok_if (fun h => zok_gd ⟨by omega, by omega⟩ (zok_some ?_)) (fun e1 => zok_if (fun h => zok_gd ⟨by omega, by omega⟩ ?_) (fun e2 => zok_if (fun h => zok_gd ⟨by omega, by omega⟩ (zok_some ?_)) (fun e3 => zok_if (fun h => zok_gd ⟨by omega, by rw [zl_m.2.2.2.2.2.2.2.2.1]; omega⟩ ?_) (fun e4 => zok_if (fun h => zok_gd ⟨by omega, by rw [zl_m.2.2.2.2.2.2.2.2.2]; omega⟩ ?_) (fun e5 => zok_if (fun h => ?_) (fun e6 => ?_)))))))
        · rw [es, if_pos h]; exact mOk.v hR hs4 rfl
        · rw [es, if_neg e0, if_pos h]; exact mOk.v hR hs4 rfl
        · have es2 := es
          rw [if_neg e0, if_neg e1, if_pos h] at es2
          rw [es2]
          refine zok_if (fun h9 => zok_some (mOk.v hR hs4 h9.symm)) (fun h9 => zok_some (mOk.v hR hs4 (f5.resolve_left h9).symm))
        · rw [es, if_neg e0, if_neg e1, if_neg e2, if_pos h]; exact mOk.v hR hs4 rfl
        · have es2 := es
          rw [if_neg e0, if_neg e1, if_neg e2, if_neg e3, if_pos h] at es2
          rw [es2]
          cases hs : vSh (qS A) (qT A) j with
          | true => exact zok_f (by decide) (zok_some (mOk.v hR hs4 rfl))
          | false => exact zok_t rfl (zok_some (mOk.v hR hs4 rfl))
        · have es2 := es
          rw [if_neg e0, if_neg e1, if_neg e2, if_neg e3, if_neg e4, if_pos h] at es2
          rw [es2]
          by_cases hd : vSd (qS A) (qT A) (sF (qS A) j).toNat = (j : Int)
          · rw [decide_eq_true hd]; exact zok_f (by decide) (zok_some (mOk.v hR hs4 rfl))
          · rw [decide_eq_false hd]; exact zok_t rfl (zok_some (mOk.v hR hs4 rfl))
        · refine zok_cl (m_lengthAt (ln := qN A) h1 h2 h6 (qN_4 hA hq) hj (⟨zSm.rf, h3⟩ : mJ (qS A) (qT A) (qN A) m4 m4)) (fun r m6 hr => zok_some ?_)
          rw [es, if_neg e0, if_neg e1, if_neg e2, if_neg e3, if_neg e4, if_neg e5, if_pos h]
          refine mOk.v hR (hs4.tr hr.2.scr) ?_
          have hr1 : r = ((chgN (sC (qS A) j) (mL (qS A) (qT A) (qN A) (sF (qS A) j).toNat) : Nat) : Int) := hr.1
          rw [hr1, mL_same g1 (qT A) (qN_4 hA hq) (by omega) (by omega)]
        · refine zok_cl (m_beginOf (ln := qN A) h1 h2 h6 (qN_4 hA hq) g3 h3 hj) (fun r m6 hr => zok_some ?_)
          rw [es, if_neg e0, if_neg e1, if_neg e2, if_neg e3, if_neg e4, if_neg e5, if_neg e6]
          exact mOk.v hR (hs4.tr ⟨hr.2.mono (fun c hc => by omega), fun i => (hr.2 292 (by decide) i).2.2, fun i _ => (hr.2 292 (by decide) i).1⟩) hr.1
      · rw [decide_eq_false hw]
        refine zok_t rfl ?_
        unfold f7_occurrence_56
        rw [thr1 hz4 (by decide), zcl_s]
        refine zok_f (by decide) (zok_some ?_)
        have es : spOcc A (j : Int) w = .inl 3 := by unfold spOcc; rw [if_neg hq, if_neg (fun q => q ho), if_pos hw]
        rw [es]
        exact mOk.x hR hs4 3
    · rw [decide_eq_false (by omega)]
      refine zok_t rfl ?_
      unfold f7_occurrence_33
      rw [thr1 hz4 (by decide), zcl_s]
      refine zok_f (by decide) (zok_some ?_)
      have es : spOcc A o w = .inl 2 := by unfold spOcc; rw [if_neg hq, if_pos ho]
      rw [es]
      exact mOk.x hR hs4 2
/-- the TEXT is written -/
theorem k_text {L : Nat → zSn} {s : zSt} {l : Nat} (hs : wSt s) (hl : l < tD s) (hTX : hTL L s l ≤ 400) {m : zM} (hk : mLk L s l m) : zok (f7_writesText m) (fun m' => mRf m m' ∧ zI m' 292 29 = ((vTx (hS L s l) (hT s l) (tX s l)).length : Int) ∧ ∀ i, i < (vTx (hS L s l) (hT s l) (tX s l)).length → zI m' 333 i = (vTx (hS L s l) (hT s l) (tX s l)).getD i 0) := by
  obtain ⟨b, k, h1, h2, h3, h4, h5, h6⟩ := hk
  exact zok_mono (m_writesText h1 h2 h5 (fun f hf => ((hs.2.2.2 l hl).2.2.2.2 f hf).1) hTX h3 h4) (fun m' h => ⟨h.1, h.2.2⟩)
theorem n_text (hA : wA c A) (hR : rM A μ) (i : Int) : zok (f7_text i μ) (mOk A μ (spText A i)) := by
  obtain ⟨hR1, h0⟩ := z0 hR
  unfold f7_text
  refine zok_lt ?_
  by_cases hq : qD A = 0
  · rw [nss0 hR1 h0 hq (by decide), zcl_s]
    refine zok_f (by decide) (zok_some ?_)
    have es : spText A i = .inl 1 := by unfold spText; rw [if_pos hq]
    rw [es]
    exact mOk.x hR mScr.rf 1
  · obtain ⟨m4, e4, hk4, hs4⟩ := nss1 hA hR1 h0 hq 1
    rw [e4, zcl_s]
    obtain ⟨g1, g2, g3, -⟩ := q_facts hA hq
    have hlen : (vTx (qS A) (qT A) (qX A)).length = vTL (qS A) (qT A) (qN A) := vTx_len (qS A) (qT A) (qX A)
    have es : spText A i = .inr (if 0 ≤ i ∧ i < (vTx (qS A) (qT A) (qX A)).length then (vTx (qS A) (qT A) (qX A)).getD i.toNat 0 else -1) := by unfold spText; rw [if_neg hq]
    refine zok_t rfl (zok_cm (k_text hA.2.1.1 (show qD A - 1 < tD (aS A) by show qD A - 1 < qD A; omega) g3 hk4) (fun m5 h5 => ?_))
    have hs5 := hs4.tr h5.1.scr
    have hl5 : zI m5 292 29 = ((vTx (qS A) (qT A) (qX A)).length : Int) := h5.2.1
    rw [hl5]
    refine zok_gl ⟨by omega, by omega⟩ ?_
    rw [win_eq, zco_s, es]
    by_cases hi : 0 ≤ i ∧ i < (vTx (qS A) (qT A) (qX A)).length
    · rw [decide_eq_true (by omega), if_pos hi]
      exact zok_f (by decide) (zok_gd ⟨by omega, by rw [zl_m2.2.2.1]; omega⟩ (zok_some (mOk.v hR hs5 (h5.2.2 i.toNat (by show i.toNat < (vTx (qS A) (qT A) (qX A)).length; omega)))))
    · rw [decide_eq_false (by omega), if_neg hi]
      exact zok_t rfl (zok_some (mOk.v hR hs5 rfl))
theorem n_orderAt (hA : wA c A) (hR : rM A μ) (i : Int) : zok (f7_orderAt i μ) (mOk A μ (spOrderAt A i)) := by
  obtain ⟨hR1, h0⟩ := z0 hR
  unfold f7_orderAt
  refine zok_lt ?_
  by_cases hq : qD A = 0
  · rw [nss0 hR1 h0 hq (by decide), zcl_s]
    refine zok_f (by decide) (zok_some ?_)
    have es : spOrderAt A i = .inl 1 := by unfold spOrderAt; rw [if_pos hq]
    rw [es]
    exact mOk.x hR mScr.rf 1
  · obtain ⟨m4, e4, hk4, hs4⟩ := nss1 hA hR1 h0 hq 1
    rw [e4, zcl_s]
    obtain ⟨g1, g2, g3, g4, g5, g6, g7, g8, g9, g10⟩ := q_facts hA hq
    obtain ⟨b, k, h1, h2, h3, h4, h5, h6, h7⟩ := n_inn hA hq hk4
    have hl := qO_len hA hq
    have es : spOrderAt A i = .inr (if 0 ≤ i ∧ i < (qO A).length then ((qO A).getD i.toNat 0 : Nat) else -1) := by unfold spOrderAt; rw [if_neg hq]
    refine zok_t rfl (zok_cm (m_laysLeaving h1 h2 h7 g9) (fun m5 hm5 => ?_))
    have hs5 := hs4.tr hm5.2.scr
    have hO : mOl (qO A) m5 := hm5.1
    rw [hO.1]
    refine zok_gl ⟨by omega, by omega⟩ ?_
    rw [win_eq, zco_s, es]
    by_cases hi : 0 ≤ i ∧ i < (qO A).length
    · rw [decide_eq_true (by omega), if_pos hi]
      exact zok_f (by decide) (zok_gd ⟨by omega, by rw [zl_m2.2.2.2.2.2.1]; omega⟩ (zok_some (mOk.v hR hs5 (hO.2 i.toNat (by omega)))))
    · rw [decide_eq_false (by omega), if_neg hi]
      exact zok_t rfl (zok_some (mOk.v hR hs5 rfl))
theorem n_why (hA : wA c A) (hR : rM A μ) (f : Int) : zok (f7_why f μ) (mOk A μ (spWhy A f)) := by
  obtain ⟨hR1, h0⟩ := z0 hR
  unfold f7_why
  refine zok_lt ?_
  rw [isf_eq, zco_s]
  by_cases hf : 0 ≤ f ∧ f < 10
  · rw [decide_eq_true (by omega)]
    refine zok_f (by decide) ?_
    unfold f7_why_18
    rw [thr0 h0, zcl_s]
    refine zok_t rfl ?_
    by_cases hq : qD A = 0
    · rw [nss0 hR1 h0 hq (by decide), zcl_s]
      refine zok_f (by decide) (zok_some ?_)
      have es : spWhy A f = .inl 2 := by unfold spWhy; rw [if_neg (fun q => q hf), if_pos hq]
      rw [es]
      exact mOk.x hR mScr.rf 2
    · obtain ⟨m4, e4, hk4, hs4⟩ := nss1 hA hR1 h0 hq 2
      rw [e4, zcl_s]
      obtain ⟨b, k, h1, h2, h3, h4, h5, h6, h7⟩ := n_inn hA hq hk4
      obtain ⟨j, rfl⟩ : ∃ j : Nat, f = j := ⟨f.toNat, by omega⟩
      refine zok_t rfl (zok_co (m_whyOf h1 h2 (show j < 10 by omega)) (fun r hr => zok_some ?_))
      have es : spWhy A (j : Int) = .inr (vWhy (qS A) (qT A) j) := by unfold spWhy; rw [if_neg (fun q => q hf), if_neg hq]; rfl
      rw [es]
      exact mOk.v hR hs4 hr
  · rw [decide_eq_false (by omega)]
    refine zok_t rfl ?_
    unfold f7_why_18
    rw [thr1 h0 (by decide), zcl_s]
    refine zok_f (by decide) (zok_some ?_)
    have es : spWhy A f = .inl 1 := by unfold spWhy; rw [if_pos hf]
    rw [es]
    exact mOk.x hR mScr.rf 1
theorem n_yielded (hA : wA c A) (hR : rM A μ) : zok (f7_yielded μ) (mOk A μ (spYielded A)) := by
  obtain ⟨hR1, h0⟩ := z0 hR
  unfold f7_yielded spYielded
  refine zok_lt ?_
  by_cases hq : qD A = 0
  · rw [nss0 hR1 h0 hq (by decide), zcl_s, if_pos hq]
    exact zok_f (by decide) (zok_some (mOk.x hR mScr.rf 1))
  · obtain ⟨m4, e4, hk4, hs4⟩ := nss1 hA hR1 h0 hq 1
    obtain ⟨b, k, h1, h2, h3, h4, h5, h6, h7⟩ := n_inn hA hq hk4
    rw [e4, zcl_s, if_neg hq]
    exact zok_t rfl (zok_mono (m_yl h1 h2) (fun r hr => by rw [hr]; exact mOk.v hR hs4 rfl))
theorem n_mirrored (hA : wA c A) (hR : rM A μ) : zok (f7_mirrored μ) (mOk A μ (spMirrored A)) := by
  obtain ⟨hR1, h0⟩ := z0 hR
  unfold f7_mirrored spMirrored
  refine zok_lt ?_
  by_cases hq : qD A = 0
  · rw [nss0 hR1 h0 hq (by decide), zcl_s, if_pos hq]
    exact zok_f (by decide) (zok_some (mOk.x hR mScr.rf 1))
  · obtain ⟨m4, e4, hk4, hs4⟩ := nss1 hA hR1 h0 hq 1
    obtain ⟨b, k, h1, h2, h3, h4, h5, h6, h7⟩ := n_inn hA hq hk4
    rw [e4, zcl_s, if_neg hq]
    exact zok_t rfl (zok_mono (m_mi h1 h2) (fun r hr => by rw [hr]; exact mOk.v hR hs4 rfl))
theorem zSm332.scr {m m' : zM} (h : zSm (fun c => c ≠ 332) m m') : mScr m m' := ⟨h.mono (fun c hc => by omega), fun i => (h 292 (by decide) i).2.2, fun i _ => (h 292 (by decide) i).1⟩
theorem n_longest (hA : wA c A) (hR : rM A μ) : zok (f7_longest μ) (mOk A μ (spLongest A)) := by
  obtain ⟨hR1, h0⟩ := z0 hR
  unfold f7_longest spLongest
  refine zok_lt ?_
  by_cases hq : qD A = 0
  · rw [nss0 hR1 h0 hq (by decide), zcl_s, if_pos hq]
    exact zok_f (by decide) (zok_some (mOk.x hR mScr.rf 1))
  · obtain ⟨m4, e4, hk4, hs4⟩ := nss1 hA hR1 h0 hq 1
    obtain ⟨b, k, h1, h2, h3, h4, h5, h6, h7⟩ := n_inn hA hq hk4
    rw [e4, zcl_s, if_neg hq]
    exact zok_t rfl (zok_mono (m_lg (ln := qN A) h1 h2 h6 (qN_4 hA hq) (q_facts hA hq).2.2.1 h3) (fun r hr => mOk.v hR (hs4.tr (zSm332.scr hr.2)) hr.1))
theorem lv_bits {m : zM} {S : zSn} {ty : Nat → Bool} (hW : wS S) (hV : mShown S ty m) : zok (f7_bits (zI m 292 27)) (fun r => r = (cnt (fun i => vLv S ty i) 10 : Nat)) :=
  zok_mono (m_bits (fun i h1 h2 => by rw [hV.2.2.2 i h2, vLv_10 hW ty i h1])) (fun r hr => by rw [hr, cnt_congr (fun i hi => hV.2.2.2 i (by omega))])
theorem n_untouched (hA : wA c A) (hR : rM A μ) : zok (f7_untouched μ) (mOk A μ (spUntouched A)) := by
  obtain ⟨hR1, h0⟩ := z0 hR
  unfold f7_untouched spUntouched
  refine zok_lt ?_
  by_cases hq : qD A = 0
  · rw [nss0 hR1 h0 hq (by decide), zcl_s, if_pos hq]
    exact zok_f (by decide) (zok_some (mOk.x hR mScr.rf 1))
  · obtain ⟨m4, e4, hk4, hs4⟩ := nss1 hA hR1 h0 hq 1
    obtain ⟨b, k, h1, h2, h3, h4, h5, h6, h7⟩ := n_inn hA hq hk4
    obtain ⟨g1, g2, g3, g4, g5, g6, g7, g8, g9, g10⟩ := q_facts hA hq
    obtain ⟨p1, p2, p3⟩ := nLv_pos hA hq
    have hl : qD A - 1 < tD (aS A) := by show qD A - 1 < qD A; omega
    have hx := hR1.2.1.2.2.2.2 _ hl
    simp only [Nat.zero_add] at hx
    rw [e4, zcl_s, if_neg hq, h1.2.2.2.2.1]
    refine zok_t rfl (zok_gl ⟨by omega, by omega⟩ (zok_gd ⟨by omega, by rw [zl_m.1]; omega⟩ (zok_lt (zok_lt ?_))))
    rw [show zx (((604 + 413 * (qD A - 1) : Nat) : Int) + 2) = 604 + 413 * (qD A - 1) + 2 from by show (((604 + 413 * (qD A - 1) : Nat) : Int) + 2).toNat = _; omega, (hs4.1 293 (by omega) _).1, hx.2.2.1]
    have hb : ∀ i, i < 32 → mbit (zand (zI m4 292 27) (zxor (tY (aS A) (qD A - 1)) (-1))) i = (vLv (qS A) (qT A) i && !qT A i) := fun i hi => by rw [mbit_and, mbit_not _ hi, h2.2.2.2 i hi]; rfl
    refine zok_co (m_bits (fun i h1 h2 => by rw [hb i h2, vLv_10 g1 (qT A) i h1]; rfl)) (fun r hr => zok_co (lv_bits g1 h2) (fun r2 hr2 => ?_))
    rw [cnt_congr (fun i (hi : i < 10) => hb i (by omega))] at hr
    have hr' : r = (nUt A : Nat) := hr
    have hr2' : r2 = (nLv A : Nat) := hr2
    subst hr'
    subst hr2'
    exact zok_gd (nan_f _ p3 _ p2 p1) (zok_some (mOk.v hR hs4 rfl))
theorem n_mean (hA : wA c A) (hR : rM A μ) : zok (f7_meanLength μ) (mOk A μ (spMean A)) := by
  obtain ⟨hR1, h0⟩ := z0 hR
  unfold f7_meanLength spMean
  refine zok_lt ?_
  by_cases hq : qD A = 0
  · rw [nss0 hR1 h0 hq (by decide), zcl_s, if_pos hq]
    exact zok_f (by decide) (zok_some (mOk.x hR mScr.rf 1))
  · obtain ⟨m4, e4, hk4, hs4⟩ := nss1 hA hR1 h0 hq 1
    obtain ⟨b, k, h1, h2, h3, h4, h5, h6, h7⟩ := n_inn hA hq hk4
    obtain ⟨g1, g2, g3, g4, g5, g6, g7, g8, g9, g10⟩ := q_facts hA hq
    obtain ⟨p1, p2, p3⟩ := nLv_pos hA hq
    have hsm := vSum_le g1 (qN_4 hA hq) g3
    rw [e4, zcl_s, if_neg hq]
    refine zok_t rfl ?_
    refine zok_x3 (fun (x1 x2 : Int) m => mJ (qS A) (qT A) (qN A) m4 m ∧ ∃ j : Nat, x2 = j ∧ j ≤ 10 ∧ x1 = (sumN (fun f => if vLv (qS A) (qT A) f = true then vL (qS A) (qT A) (qN A) f else 0) j : Nat)) (fun _ x2 _ => 10 - x2.toNat) (fun kk x1 x2 m hx ih => ?_) zFu 0 0 m4 ⟨⟨zSm.rf, h3⟩, 0, rfl, by omega, rfl⟩ (by show 10 - 0 < 100000; omega)
    obtain ⟨hJ, j, rfl, j1, rfl⟩ := hx
    have hV := hJ.sh h2
    have hle := sumN_le (g := fun f => if vLv (qS A) (qT A) f = true then vL (qS A) (qT A) (qN A) f else 0) (n := j) (b := 400) (fun i hi => by
      have := vL_400 g1 (qN_4 hA hq) g3 (show i < 10 by omega)
      show (if _ then _ else _) ≤ _
      split <;> omega)
    have e : sumN (fun f => if vLv (qS A) (qT A) f = true then vL (qS A) (qT A) (qN A) f else 0) (j + 1) = sumN (fun f => if vLv (qS A) (qT A) f = true then vL (qS A) (qT A) (qN A) f else 0) j + if vLv (qS A) (qT A) j = true then vL (qS A) (qT A) (qN A) j else 0 := rfl
    unfold f7_meanLength_19
    refine zok_if (fun h9 => ?_) (fun h9 => ?_)
    · refine zok_co (lv_bits g1 hV) (fun r hr => ?_)
      have hr' : r = (nLv A : Nat) := hr
      subst hr'
      rw [show j = 10 by omega] at hle ⊢
      exact zok_gd (nan_d p2 p1 (by omega)) (zok_some (mOk.v hR (hs4.tr hJ.scr) rfl))
    · refine zok_co (m_has _ (j : Int) (by omega) (by omega)) (fun r hr => ?_)
      rw [show ((j : Int)).toNat = j from rfl, hV.2.2.2 j (by omega)] at hr
      subst hr
      cases hlv : vLv (qS A) (qT A) j with
      | false =>
        rw [hlv, if_neg (by decide)] at e
        exact zok_t rfl (zok_gl ⟨by omega, by omega⟩ (zok_gl ⟨by omega, by omega⟩ (ih _ _ _ ⟨hJ, j + 1, by omega, by omega, by rw [e]; omega⟩ (by show 10 - ((j : Int) + 1).toNat < 10 - (j : Int).toNat; omega))))
      | true =>
        rw [hlv, if_pos rfl] at e
        refine zok_f (by decide) (zok_cl (m_valueLength h1 h2 h6 (qN_4 hA hq) (show j < 10 by omega) hJ) (fun x m3 hx => ?_))
        have hx1 : x = (vL (qS A) (qT A) (qN A) j : Int) := by
          have h9 : x = (mL (qS A) (qT A) (qN A) j : Int) := hx.1
          rw [mL_same g1 (qT A) (qN_4 hA hq) (by omega) (by omega)] at h9; exact h9
        have := vL_400 g1 (qN_4 hA hq) g3 (show j < 10 by omega)
        rw [hx1]
        exact zok_gl ⟨by omega, by omega⟩ (zok_gl ⟨by omega, by omega⟩ (ih _ _ _ ⟨hx.2, j + 1, by omega, by omega, by rw [e]; omega⟩ (by show 10 - ((j : Int) + 1).toNat < 10 - (j : Int).toNat; omega)))
theorem n_errorCode (hR : rM A μ) : zok (f7_errorCode μ) (mOk A μ (.inr (aE A).1)) := by
  unfold f7_errorCode
  exact zok_lt (zok_some (mOk.v hR mScr.rf (hR.z 0).2.2.2.1.1))
theorem n_errorPosition (hR : rM A μ) : zok (f7_errorPosition μ) (mOk A μ (.inr (aE A).2)) := by
  unfold f7_errorPosition
  exact zok_lt (zok_some (mOk.v hR mScr.rf (hR.z 0).2.2.2.1.2))
end mFace2
