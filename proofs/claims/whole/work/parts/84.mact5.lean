/-! THE REFERENCE'S ACTS, 5: what would be; back; what is kept -/
section mAct5
variable {A : zA} {c : Int} {μ m m' : zM} {s : zSt} {S : zSn} {ty ty2 : Nat → Bool} {b k l : Nat}
theorem cx_row (hC : mCx m b k S ty ((604 + 413 * l : Nat) : Int)) (hl : l < 4) (hf : zSm (fun c => c ≠ 293 ∧ c ≠ 294) m m') (hb : ∀ f, f < 10 → mbit (zI m' 293 (604 + 413 * l + 2)) f = ty2 f) : mCx m' b k S ty2 ((604 + 413 * l : Nat) : Int) := by
  obtain ⟨c1, c2, c3, c4, c5, c6, c7, c8⟩ := hC
  have e := hf 292 (by omega)
  exact ⟨c1, c2, (e 8).2.2.trans c3, (e 21).1.trans c4, (e 22).1.trans c5, Or.inr ⟨by omega, by omega, fun f hf' => hb f hf'⟩, pSm_keep (fun c h1 h2 i => (hf c (by omega) i).1) c7, c8⟩
theorem mFrS.scr (h : mFrS m m') : mScr m m' := ⟨h.1.mono (fun c hc => by unfold mVc; omega), h.2.1, fun i hi => h.2.2 i (by omega)⟩
theorem mb_back (v : Int) : zok (f7_back v m) (fun r => r.1 = v ∧ zSm (fun c => c ≠ 293) m r.2 ∧ ∀ i, i < 2256 → zI r.2 293 i = zI m 294 i) := by
  unfold f7_back
  refine zok_cm (m_copies (a := 294) (p := 0) (d := 293) (q := 0) (by rw [zl_m.2.1]; decide) (by rw [zl_m.1]; decide) (by rw [zl_m.1, zl_m.2.1]; decide) (Or.inl (by decide))) (fun m' h => zok_some ⟨rfl, h.1, fun i hi => ?_⟩)
  have := h.2.1 i hi
  rw [Nat.zero_add] at this
  exact this
theorem mOk.bk (hA : wSt (aS A)) (hR : rM A μ) {m3 m4 m6 m8 : zM} (hs3 : mScr (zsI μ 292 0 0) m3) (hc : zSm (fun c => c ≠ 294) m3 m4) (hr : ∀ i, i < 2256 → zI m4 294 (0 + i) = zI m3 293 (0 + i)) (f6 : zSm (fun c => c ≠ 293) m4 m6) (h8 : mScr m6 m8) (v : Int) : zok (f7_back v m8) (mOk A μ (.inr v)) := by
  refine zok_mono (mb_back v) (fun r h => ?_)
  obtain ⟨x, m9⟩ := r
  obtain ⟨e1, e2, e3⟩ := h
  have hf : mFb (zsI μ 292 0 0) m9 := (((hs3.fb.tr (mFb.s94 hc)).tr (mFb.s93 f6)).tr h8.fb).tr (mFb.s93 e2)
  refine ⟨((hR.z 0).x.fb hf).rm (pMs_row hA (fun i hi => ?_) hR.2.1), (zSm.rf.sI (c := 292) (j := 0) (v := 0) (by omega)).tr (hf.1.mono (fun c hc => by omega)), (hf.2.2 0 (by omega)).trans (zI_eq rfl rfl), e1⟩
  have := hr i hi
  rw [Nat.zero_add] at this ⊢
  exact (e3 i hi).trans (((h8.1 294 (by omega) i).1).trans (((f6 294 (by decide) i).1).trans (this.trans (((hs3.1 293 (by omega) i).1).trans (zI_nk (by decide))))))
theorem n_lengthIf (hA : wA c A) (hR : rM A μ) (n : Int) : zok (f7_lengthIf n μ) (mOk A μ (spLengthIf A n)) := by
  obtain ⟨hR1, h0⟩ := z0 hR
  unfold f7_lengthIf
  refine zok_lt ?_
  rw [win_eq, zco_s]
  by_cases hn : 1 ≤ n ∧ n ≤ 20
  · rw [decide_eq_true (by omega)]
    refine zok_f (by decide) ?_
    unfold f7_lengthIf_21
    rw [thr0 h0, zcl_s]
    refine zok_t rfl ?_
    by_cases hq : qD A = 0
    · rw [nss0 hR1 h0 hq (by decide), zcl_s]
      refine zok_f (by decide) (zok_some ?_)
      have es : spLengthIf A n = .inl 2 := by unfold spLengthIf; rw [if_neg (fun q => q hn), if_pos hq]
      rw [es]
      exact mOk.x hR mScr.rf 2
    · obtain ⟨m3, e3, hk3, hs3⟩ := nss1 hA hR1 h0 hq 2
      rw [e3, zcl_s]
      obtain ⟨j, rfl⟩ : ∃ j : Nat, n = j := ⟨n.toNat, by omega⟩
      obtain ⟨b, k, h1, h2, h3, h4, h5, h6, h7⟩ := n_inn hA hq hk3
      obtain ⟨g1, g2, g3, g4, g5, g6, g7, g8, g9, g10⟩ := q_facts hA hq
      have hl : qD A - 1 < tD (aS A) := by show qD A - 1 < qD A; omega
      have hp3 : pMs m3 293 0 (aS A) := pMs_keep (fun i => (hs3.1 293 (by omega) i).1) hR1.2.1
      have hx := hp3.2.2.2.2 _ hl
      simp only [Nat.zero_add] at hx
      obtain ⟨x1, x2, x3, x4⟩ := hx
      have h40 : qN A (qC A) ≤ 40 := g2 (qC A) g4
      refine zok_t rfl (zok_cm (m_copies (a := 293) (p := 0) (d := 294) (q := 0) (by rw [zl_m.1]; decide) (by rw [zl_m.2.1]; decide) (by rw [zl_m.1, zl_m.2.1]; decide) (Or.inl (by decide))) (fun m4 hc => ?_))
      have f4 : zSm (fun c => c ≠ 293 ∧ c ≠ 294) m3 m4 := hc.1.mono (fun c h => h.2)
      have r4 : ∀ i, zI m4 293 i = zI m3 293 i := fun i => (hc.1 293 (by decide) i).1
      have e22 : zI m4 292 22 = ((604 + 413 * (qD A - 1) : Nat) : Int) := ((hc.1 292 (by decide) 22).1).trans h1.2.2.2.2.1
      have hC4 : mCx m4 b k (qS A) (qT A) _ := cx_row h1 (by omega) f4 (fun f hf => by rw [r4, x3]; rfl)
      have K : zok (f7_lengthIf_88 (j : Int) (qC A : Nat) (qN A (qC A) : Nat) m4) (mOk A μ (spLengthIf A (j : Int))) := by
        unfold f7_lengthIf_88
        rw [e22]
        refine zok_gl ⟨by omega, by omega⟩ (zok_if (fun h9 => ?_) (fun h9 => ?_))
        · refine zok_gl ⟨by omega, by omega⟩ (zok_gd ⟨by omega, by rw [zl_m.1]; omega⟩ (zok_lt (zok_lt (zok_gd ⟨by omega, by rw [zl_m.1]; omega⟩ (zok_lt ?_)))))
          rw [zI_nk (show (292 : Nat) ≠ 293 by decide), e22, show zx (((604 + 413 * (qD A - 1) : Nat) : Int) + 2) = 604 + 413 * (qD A - 1) + 2 from by show (_ : Int).toNat = _; omega, r4, x3]
          refine zok_gl ⟨by omega, by omega⟩ (zok_gl ⟨by omega, by omega⟩ (zok_gl ⟨by omega, by omega⟩ (zok_gd ⟨by omega, by rw [zl_m.1]; omega⟩ (zok_lt ?_))))
          rw [show zx (((604 + 413 * (qD A - 1) : Nat) : Int) + 3 + (qC A : Nat)) = 604 + 413 * (qD A - 1) + 3 + qC A from by show (_ : Int).toNat = _; omega]
          generalize hm6 : zsI (zsI m4 293 (604 + 413 * (qD A - 1) + 2) (zor (tY (aS A) (qD A - 1)) (zshl 1 (qC A : Nat)))) 293 (604 + 413 * (qD A - 1) + 3 + qC A) ((qN A (qC A) : Nat) + (j : Int)) = m6
          have f6 : zSm (fun c => c ≠ 293) m4 m6 := by rw [← hm6]; exact (zSm.rf.sI (fun q => q rfl)).sI (fun q => q rfl)
          have hC6 : mCx m6 b k (qS A) (onT (qT A) (qC A)) _ := cx_row hC4 (by omega) (f6.mono (fun c h => h.1)) (fun f hf => by
            rw [← hm6, zI_ni (by omega), zI_eq rfl rfl, mb_on g4]; rfl)
          refine zok_cm (m_shows hC6) (fun m7 h7 => ?_)
          have hC7 := h7.2.2.cx hC6
          have r7 : ∀ i, zI m7 293 i = zI m6 293 i := fun i => (h7.2.2.1 293 (by unfold mVc; omega) i).1
          have hln : ∀ f, f < 10 → updN (qN A) (qC A) (qN A (qC A) + j) f ≤ 400 := fun f hf => by
            unfold updN
            by_cases q : f = qC A
            · rw [if_pos q]; omega
            · rw [if_neg q]; exact qN_4 hA hq f hf
          refine zok_cl (m_textLength (ln := updN (qN A) (qC A) (qN A (qC A) + j)) hC7 h7.1 (fun f hf ht => ?_) hln ⟨zSm.rf, fun f hf => Or.inl (h7.2.1 f hf).1⟩) (fun r m8 h8 => ?_)
          · rw [r7, ← hm6]
            show zI (zsI (zsI m4 293 _ _) 293 _ _) 293 (604 + 413 * (qD A - 1) + 3 + f) = ((if f = qC A then qN A (qC A) + j else qN A f : Nat) : Int)
            by_cases q : f = qC A
            · rw [if_pos q, zI_eq rfl (by omega)]; omega
            · rw [if_neg q, zI_ni (by omega), zI_ni (by omega), r4, (x4 f hf).1]; rfl
          · have hr : r = (mTL (qS A) (onT (qT A) (qC A)) (updN (qN A) (qC A) (qN A (qC A) + j)) : Nat) := h8.1
            rw [mTL_eq g1 _ hln] at hr
            have h8s : mScr m6 m8 := h7.2.2.scr.tr h8.2.scr
            subst hr
            have es : spLengthIf A (j : Int) = .inr (if vTL (qS A) (onT (qT A) (qC A)) (updN (qN A) (qC A) (qN A (qC A) + j)) > 400 then -1 else (vTL (qS A) (onT (qT A) (qC A)) (updN (qN A) (qC A) (qN A (qC A) + j)) : Nat)) := by
              unfold spLengthIf
              rw [if_neg (fun q => q hn), if_neg hq, if_neg (show ¬ qN A (qC A) + ((j : Int)).toNat > 40 by rw [show ((j : Int)).toNat = j from rfl]; omega)]; rfl
            rw [es]
            generalize vTL (qS A) (onT (qT A) (qC A)) (updN (qN A) (qC A) (qN A (qC A) + j)) = T
            unfold f7_lengthIf_157
            refine zok_if (fun ht => ?_) (fun ht => ?_)
            · rw [if_neg (by omega)]
              rw [show ((min T 100000 : Nat) : Int) = (T : Int) by omega]
              exact zok_cl (mOk.bk hA.2.1.1 hR hs3 hc.1 hc.2.1 f6 h8s _) (fun x m hx => zok_some hx)
            · rw [if_pos (by omega)]
              exact zok_cl (mOk.bk hA.2.1.1 hR hs3 hc.1 hc.2.1 f6 h8s _) (fun x m hx => zok_some hx)
        · have es : spLengthIf A (j : Int) = .inr (-1) := by
            unfold spLengthIf
            rw [if_neg (fun q => q hn), if_neg hq, if_pos (show qN A (qC A) + ((j : Int)).toNat > 40 by rw [show ((j : Int)).toNat = j from rfl]; omega)]
          rw [es]
          refine zok_some ⟨hR1.x.fb (hs3.fb.tr (mFb.s94 hc.1)) |>.rm (pMs_keep r4 hp3), ?_, ?_, rfl⟩
          · exact (zSm.rf.sI (c := 292) (j := 0) (v := 0) (by omega)).tr ((hs3.1.mono (fun c hc => by omega)).tr (hc.1.mono (fun c hc => by omega)))
          · exact ((hc.1 292 (by decide) 0).1).trans ((hs3.2.2 0 (by omega)).trans h0)
      rw [e22]
      refine zok_gl ⟨by omega, by omega⟩ (zok_gd ⟨by omega, by rw [zl_m.1]; omega⟩ (zok_lt ?_))
      rw [show zx (((604 + 413 * (qD A - 1) : Nat) : Int) + 1) = 604 + 413 * (qD A - 1) + 1 from by show (_ : Int).toNat = _; omega, r4, x2, g7]
      refine zok_co (m_isTyped hC4 (qC A : Nat) (by omega) (by omega)) (fun r hr => ?_)
      have hr' : r = qT A (qC A) := hr
      subst hr'
      cases ht : qT A (qC A) with
      | false =>
        have e0 : qN A (qC A) = 0 := by show (qX A (qC A)).length = 0; rw [g6 _ g4 ht]; rfl
        rw [e0] at K
        exact zok_t rfl K
      | true =>
        refine zok_f (by decide) (zok_gl ⟨by omega, by omega⟩ (zok_gl ⟨by omega, by omega⟩ (zok_gd ⟨by omega, by rw [zl_m.1]; omega⟩ ?_)))
        rw [show zx (((604 + 413 * (qD A - 1) : Nat) : Int) + 3 + (qC A : Nat)) = 604 + 413 * (qD A - 1) + 3 + qC A from by show (_ : Int).toNat = _; omega, r4, (x4 _ g4).1]
        exact K
  · rw [decide_eq_false (by omega)]
    refine zok_t rfl ?_
    unfold f7_lengthIf_21
    rw [thr1 h0 (by decide), zcl_s]
    refine zok_f (by decide) (zok_some ?_)
    have es : spLengthIf A n = .inl 1 := by unfold spLengthIf; rw [if_pos hn]
    rw [es]
    exact mOk.x hR mScr.rf 1
theorem n_wouldHide (hA : wA c A) (hR : rM A μ) (f : Int) : zok (f7_wouldHide f μ) (mOk A μ (spWouldHide A f)) := by
  obtain ⟨hR1, h0⟩ := z0 hR
  unfold f7_wouldHide
  refine zok_lt ?_
  rw [isf_eq, zco_s]
  by_cases hf : 0 ≤ f ∧ f < 10
  · rw [decide_eq_true (by omega)]
    refine zok_f (by decide) ?_
    unfold f7_wouldHide_18
    rw [thr0 h0, zcl_s]
    refine zok_t rfl ?_
    by_cases hq : qD A = 0
    · rw [nss0 hR1 h0 hq (by decide), zcl_s]
      refine zok_f (by decide) (zok_some ?_)
      have es : spWouldHide A f = .inl 2 := by unfold spWouldHide; rw [if_neg (fun q => q hf), if_pos hq]
      rw [es]
      exact mOk.x hR mScr.rf 2
    · obtain ⟨m3, e3, hk3, hs3⟩ := nss1 hA hR1 h0 hq 2
      rw [e3, zcl_s]
      obtain ⟨j, rfl⟩ : ∃ j : Nat, f = j := ⟨f.toNat, by omega⟩
      have hj : j < 10 := by omega
      obtain ⟨b, k, h1, h2, h3, h4, h5, h6, h7⟩ := n_inn hA hq hk3
      obtain ⟨g1, g2, g3, g4, g5, g6, g7, g8, g9, g10⟩ := q_facts hA hq
      have hl : qD A - 1 < tD (aS A) := by show qD A - 1 < qD A; omega
      have hp3 : pMs m3 293 0 (aS A) := pMs_keep (fun i => (hs3.1 293 (by omega) i).1) hR1.2.1
      have hx := hp3.2.2.2.2 _ hl
      simp only [Nat.zero_add] at hx
      obtain ⟨x1, x2, x3, x4⟩ := hx
      refine zok_t rfl (zok_co (m_isTyped h1 (j : Int) (by omega) (by omega)) (fun r hr => ?_))
      have hr' : r = qT A j := hr
      subst hr'
      cases ht : qT A j with
      | true =>
        have es : spWouldHide A (j : Int) = .inr 0 := by unfold spWouldHide; rw [if_neg (fun q => q hf), if_neg hq, if_pos (show qT A ((j : Int)).toNat = true from ht)]
        rw [es]
        exact zok_f (by decide) (zok_some (mOk.v hR hs3 rfl))
      | false =>
        have es : spWouldHide A (j : Int) = .inr (setI (fun i => vLv (qS A) (qT A) i && !vLv (qS A) (onT (qT A) j) i) 10) := by
          unfold spWouldHide
          rw [if_neg (fun q => q hf), if_neg hq, if_neg (show ¬ qT A ((j : Int)).toNat = true by rw [show ((j : Int)).toNat = j from rfl, ht]; decide)]; rfl
        rw [es]
        refine zok_t rfl (zok_lt (zok_cm (m_copies (a := 293) (p := 0) (d := 294) (q := 0) (by rw [zl_m.1]; decide) (by rw [zl_m.2.1]; decide) (by rw [zl_m.1, zl_m.2.1]; decide) (Or.inl (by decide))) (fun m4 hc => ?_)))
        have f4 : zSm (fun c => c ≠ 293 ∧ c ≠ 294) m3 m4 := hc.1.mono (fun c h => h.2)
        have r4 : ∀ i, zI m4 293 i = zI m3 293 i := fun i => (hc.1 293 (by decide) i).1
        have e22 : zI m4 292 22 = ((604 + 413 * (qD A - 1) : Nat) : Int) := ((hc.1 292 (by decide) 22).1).trans h1.2.2.2.2.1
        rw [e22]
        refine zok_gl ⟨by omega, by omega⟩ (zok_gd ⟨by omega, by rw [zl_m.1]; omega⟩ (zok_lt (zok_lt (zok_gd ⟨by omega, by rw [zl_m.1]; omega⟩ (zok_lt ?_)))))
        rw [show zx (((604 + 413 * (qD A - 1) : Nat) : Int) + 2) = 604 + 413 * (qD A - 1) + 2 from by show (_ : Int).toNat = _; omega, r4, x3]
        generalize hm6 : zsI m4 293 (604 + 413 * (qD A - 1) + 2) (zor (tY (aS A) (qD A - 1)) (zshl 1 (j : Int))) = m6
        have f6 : zSm (fun c => c ≠ 293) m4 m6 := by rw [← hm6]; exact zSm.rf.sI (fun q => q rfl)
        have hC6 : mCx m6 b k (qS A) (onT (qT A) j) _ := cx_row h1 (by omega) (f4.tr (f6.mono (fun c h => h.1))) (fun f hf => by
          rw [← hm6, zI_eq rfl rfl, mb_on hj]; rfl)
        refine zok_cm (m_shows hC6) (fun m7 h7 => zok_lt (zok_lt (zok_lt (zok_lt (zok_lt ?_)))))
        have hb : ∀ i, i < 32 → mbit (zand (zand (zI m3 292 27) (zxor (zI m7 292 27) (-1))) (zxor (zshl 1 (j : Int)) (-1))) i = (vLv (qS A) (qT A) i && !vLv (qS A) (onT (qT A) j) i) := fun i hi => by
          rw [mbit_and, mbit_and, mbit_not _ hi, mbit_not _ hi, h2.2.2.2 i hi, h7.1.2.2.2 i hi, mbit_shl (by omega) (by omega)]
          by_cases q : i = j
          · have := vLv_own g1 hj (ty := qT A) (ty2 := onT (qT A) j) (fun g hg => by show _ = if g = j then true else _; rw [if_neg hg])
            rw [q, this]
            cases vLv (qS A) (onT (qT A) j) j <;> rfl
          · rw [decide_eq_false (by omega)]; simp
        rw [← setI_eq (zr_of _) hb (fun i hi => by rw [vLv_10 g1 (qT A) i hi]; rfl)]
        exact zok_cl (mOk.bk hA.2.1.1 hR hs3 hc.1 hc.2.1 f6 h7.2.2.scr _) (fun x m hx => zok_some hx)
  · rw [decide_eq_false (by omega)]
    refine zok_t rfl ?_
    unfold f7_wouldHide_18
    rw [thr1 h0 (by decide), zcl_s]
    refine zok_f (by decide) (zok_some ?_)
    have es : spWouldHide A f = .inl 1 := by unfold spWouldHide; rw [if_pos hf]
    rw [es]
    exact mOk.x hR mScr.rf 1
theorem n_lengthOf (hA : wA c A) (hR : rM A μ) (k : Int) : zok (f7_lengthOf k μ) (mOk A μ (spLengthOf A k)) := by
  obtain ⟨hR1, h0⟩ := z0 hR
  unfold f7_lengthOf
  refine zok_lt ?_
  by_cases hk : 0 ≤ k ∧ k < aN A
  · rw [nsn1 hA hR1 h0 hk, zcl_s]
    obtain ⟨j, rfl⟩ : ∃ j : Nat, k = j := ⟨k.toNat, by omega⟩
    have hj : j < aN A := by omega
    have hn := hA.1.1
    have es : spLengthOf A (j : Int) = .inr ((min (vTL (aL A j) (fun _ => false) (fun _ => 0)) 100000 : Nat) : Int) := by unfold spLengthOf; rw [if_neg (fun q => q hk)]; rfl
    rw [es]
    refine zok_t rfl ?_
    obtain ⟨b, b1, b2, b3, b4, b5⟩ := hR1.lb
    have hgo : ∀ m4 : zM, mScr (zsI μ 292 0 0) m4 → ∀ r : Int, r = ((min (vTL (aL A j) (fun _ => false) (fun _ => 0)) 100000 : Nat) : Int) → mOk A μ (.inr ((min (vTL (aL A j) (fun _ => false) (fun _ => 0)) 100000 : Nat) : Int)) (r, m4) := fun m4 h r e => mOk.v hR h e
    generalize zsI μ 292 0 0 = μ1 at *
    unfold f7_laysBare
    have f2 : zSm (fun c => c ≠ 292) μ1 (zsI (zsI μ1 292 22 (-1)) 292 21 (j : Int)) := (zSm.rf.sI (fun q => q rfl)).sI (fun q => q rfl)
    have hC : mCx (zsI (zsI μ1 292 22 (-1)) 292 21 (j : Int)) b j (aL A j) (fun _ => false) (-1) :=
      ⟨b1, by omega, b2, zI_eq rfl rfl, by rw [zI_ni (by decide), zI_eq rfl rfl], Or.inl ⟨rfl, fun _ _ => rfl⟩, pSm_keep (fun c c1 c2 i => (f2 c (by omega) i).1) (b5 j hj), hA.1.2 j hj⟩
    have s2 : mScr μ1 (zsI (zsI μ1 292 22 (-1)) 292 21 (j : Int)) := ⟨f2.mono (fun c hc => by omega), fun _ => rfl, fun i hi => by rw [zI_ni (by omega), zI_ni (by omega)]⟩
    refine zok_cm (zok_lt (zok_lt (zok_cm (m_shows hC) (fun m3 h3 => zok_some (show _ ∧ _ from ⟨h3, h3.2.2.cx hC⟩))))) (fun m3 h3 => ?_)
    obtain ⟨h3, hC3⟩ := h3
    refine zok_cl (m_textLength (ln := fun _ => 0) hC3 h3.1 (fun f hf ht => by cases ht) (fun f hf => Nat.zero_le _) ⟨zSm.rf, fun f hf => Or.inl (h3.2.1 f hf).1⟩) (fun r m4 h4 => zok_some ?_)
    have hr : r = (mTL (aL A j) (fun _ => false) (fun _ => 0) : Nat) := h4.1
    rw [mTL_eq (hA.1.2 j hj) _ (fun f hf => Nat.zero_le _)] at hr
    exact hgo m4 ((s2.tr h3.2.2.scr).tr h4.2.scr) r hr
  · rw [nsn0 hA hR1 h0 hk, zcl_s]
    have es : spLengthOf A k = .inl 1 := by unfold spLengthOf; rw [if_pos hk]
    rw [es]
    exact zok_f (by decide) (zok_some (mOk.x hR mScr.rf 1))
end mAct5
