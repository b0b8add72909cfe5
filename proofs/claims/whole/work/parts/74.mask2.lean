/-! THE REFERENCE'S QUESTIONS -/
theorem zok_eq {α : Type} {e : Option α} {v : α} (h : zok e (fun b => b = v)) : e = some v := by obtain ⟨a, e1, rfl⟩ := h; exact e1
theorem zco_s {β γ : Type} {x : β} {f : β → Option γ} : zco (some x) f = f x := rfl
theorem zgl_s {γ : Type} {e : Int} {f : Int → Option γ} (h : zr e) : zgl e f = f e := if_pos h
theorem zgd_s {α : Type} {c : Prop} {B : Option α} (h : c) : zgd c B = B := if_pos h
theorem win_eq (x a c : Int) : f7_within x a c = some (decide (a ≤ x ∧ x ≤ c)) := zok_eq (m_within x a c)
theorem isf_eq (f : Int) : f7_isField f = some (decide (0 ≤ f ∧ f ≤ 9)) := by unfold f7_isField; rw [win_eq]; rfl
theorem thr0 {μ : zM} (h : zI μ 292 0 = 0) (k : Int) : f7_throwsIf 0 k μ = some (false, μ) := by
  unfold f7_throwsIf f7_throwsIf_16
  rw [if_pos h, if_pos rfl, if_pos (by omega)]
theorem thr1 {μ : zM} (h : zI μ 292 0 = 0) {k : Int} (hk : 0 < k) : f7_throwsIf 1 k μ = some (true, zsI μ 292 0 k) := by
  unfold f7_throwsIf f7_throwsIf_16
  rw [if_pos h, if_neg (by decide)]
  show (if zI (zsI μ 292 0 k) 292 0 ≤ 0 then some (false, zsI μ 292 0 k) else some (true, zsI μ 292 0 k)) = _
  rw [zI_eq rfl rfl, if_neg (by omega)]
def mAns {γ : Type} : Nat ⊕ γ → γ × zM → Prop
  | .inl k, r => zI r.2 292 0 = (k : Nat)
  | .inr v, r => zI r.2 292 0 = 0 ∧ r.1 = v
def mOk {γ : Type} (A : zA) (μ : zM) (sp : Nat ⊕ γ) (r : γ × zM) : Prop := rM A r.2 ∧ zSm (fun c => c < 292 ∨ 338 < c) μ r.2 ∧ mAns sp r
theorem rM.z {A : zA} {μ : zM} (hR : rM A μ) (v : Int) : rM A (zsI μ 292 0 v) := hR.keep (zSm.rf.sI (by omega)) (fun _ => rfl) (fun i hi => zI_ni (by omega))
theorem mOk.v {γ : Type} {A : zA} {μ m : zM} {v w : γ} (hR : rM A μ) (h : mScr (zsI μ 292 0 0) m) (e : w = v) : mOk A μ (.inr v) (w, m) :=
  ⟨(hR.z 0).scr h, (zSm.rf.sI (c := 292) (j := 0) (v := 0) (by omega)).tr (h.1.mono (fun c hc => by omega)), (h.2.2 0 (by omega)).trans (zI_eq rfl rfl), e⟩
theorem mOk.x {γ : Type} {A : zA} {μ m : zM} {w : γ} (hR : rM A μ) (h : mScr (zsI μ 292 0 0) m) (k : Nat) : mOk A μ (.inl k) (w, zsI m 292 0 (k : Nat)) :=
  ⟨((hR.z 0).scr h).z _, ((zSm.rf.sI (c := 292) (j := 0) (v := 0) (by omega)).tr (h.1.mono (fun c hc => by omega))).sI (by omega), zI_eq rfl rfl⟩
/-- the library -/
def rLb (n : Nat) (L : Nat → zSn) (μ : zM) : Prop := ∃ b : Nat, okB b ∧ zR μ 292 8 = b ∧ zR μ 292 13 = 613 - b ∧ zI μ b 0 = n ∧ ∀ k, k < n → pSm μ b k (L k)
theorem rLb.keep {n : Nat} {L : Nat → zSn} {μ m : zM} (h : rLb n L μ) (hs : zSm (fun c => 298 < c ∧ c < 328) μ m) (hr : ∀ i, zR m 292 i = zR μ 292 i) : rLb n L m := by
  obtain ⟨b, b1, b2, b3, b4, b5⟩ := h
  exact ⟨b, b1, (hr 8).trans b2, (hr 13).trans b3, ((hs b (by omega) 0).1).trans b4, fun k hk => pSm_keep (fun c c1 c2 i => (hs c (by omega) i).1) (b5 k hk)⟩
/-- the reference looks at level l of the sessions s -/
def mLk (L : Nat → zSn) (s : zSt) (l : Nat) (m : zM) : Prop := ∃ b k, mCx m b k (hS L s l) (hT s l) ((604 + 413 * l : Nat) : Int) ∧ mShown (hS L s l) (hT s l) m ∧ (∀ f, f < 10 → zI m 332 f = -1 ∨ zI m 332 f = mL (hS L s l) (hT s l) (hN s l) f) ∧ (∀ f, f < 10 → zI m 335 f = 0) ∧ mTxs m (hT s l) (tX s l) ((604 + 413 * l : Nat) : Int) ∧ zI m 293 1 = tO s
section mFace
variable {A : zA} {c : Int} {μ m : zM} {n : Nat} {L : Nat → zSn} {s : zSt} {l : Nat}
theorem mLk.fo (h : mFrO μ m) (hk : mLk L s l μ) : mLk L s l m := by
  obtain ⟨b, k, h1, h2, h3, h4, h5, h6⟩ := hk
  refine ⟨b, k, h.cx h1, h.sh h2, fun f hf => ?_, fun f hf => ?_, fun f hf ht => ⟨?_, fun i hi => ?_⟩, ?_⟩
  · rw [(h.1 332 (by decide) f).1]; exact h3 f hf
  · rw [(h.1 335 (by decide) f).1]; exact h4 f hf
  · rw [(h.1 293 (by decide) _).1]; exact (h5 f hf ht).1
  · rw [(h.1 293 (by decide) _).1]; exact (h5 f hf ht).2 i hi
  · rw [(h.1 293 (by decide) 1).1]; exact h6
theorem mFrO.scr (h : mFrO μ m) : mScr μ m := ⟨h.1.mono (fun c hc => by omega), h.2.1, fun i hi => h.2.2 i (by omega)⟩
theorem mRf.scr (h : mRf μ m) : mScr μ m := ⟨h.1.mono (fun c hc => by omega), h.2.1, fun i hi => h.2.2 i (by omega)⟩
theorem mJ.scr {S : zSn} {ty : Nat → Bool} {ln : Nat → Nat} (h : mJ S ty ln μ m) : mScr μ m := ⟨h.1.mono (fun c hc => by omega), fun i => (h.1 292 (by decide) i).2.2, fun i hi => (h.1 292 (by decide) i).1⟩
theorem m_lays (hLb : rLb n L μ) (hn : n ≤ 8) (hW : ∀ k, k < n → wS (L k)) (hp : pMs μ 293 0 s) (hs : wSt s) (hl : l < tD s) (hk : 0 ≤ tS s l ∧ tS s l < n) : zok (f7_lays (l : Int) μ) (fun m => mLk L s l m ∧ mScr μ m) := by
  have hd := hs.2.1
  obtain ⟨b, b1, b2, b3, b4, b5⟩ := hLb
  have hx := hp.2.2.2.2 l hl
  have hb := b5 (tS s l).toNat (by omega)
  have hWS := hW (tS s l).toNat (by omega)
  simp only [Nat.zero_add] at hx
  unfold f7_lays
  refine zok_gl ⟨by omega, by omega⟩ (zok_gl ⟨by omega, by omega⟩ (zok_lt ?_))
  rw [zI_eq rfl rfl]
  refine zok_gl ⟨by omega, by omega⟩ (zok_gd ⟨by omega, by rw [zl_m.1]; omega⟩ (zok_lt ?_))
  have e9 : zx (604 + 413 * (l : Int) + 0) = 604 + 413 * l := by show (604 + 413 * (l : Int) + 0).toNat = _; omega
  rw [e9, zI_nk (by decide), hx.1]
  generalize hm2 : zsI (zsI μ 292 22 (604 + 413 * (l : Int))) 292 21 (tS s l) = m2
  have f1 : zSm (fun c => c ≠ 292) μ m2 := by rw [← hm2]; exact (zSm.rf.sI (fun q => q rfl)).sI (fun q => q rfl)
  have f2 : ∀ i, zR m2 292 i = zR μ 292 i := fun i => by rw [← hm2]; rfl
  have f3 : ∀ i, i ≠ 21 → i ≠ 22 → zI m2 292 i = zI μ 292 i := fun i h1 h2 => by rw [← hm2, zI_ni h1, zI_ni h2]
  have f4 : zI m2 292 21 = tS s l := by rw [← hm2, zI_eq rfl rfl]
  have f5 : zI m2 292 22 = 604 + 413 * (l : Int) := by rw [← hm2, zI_ni (by decide), zI_eq rfl rfl]
  have hC : mCx m2 b (tS s l).toNat (hS L s l) (hT s l) ((604 + 413 * l : Nat) : Int) := by
    refine ⟨b1, by omega, (f2 8).trans b2, by rw [f4]; omega, by rw [f5]; omega, Or.inr ⟨by omega, by omega, fun f hf => ?_⟩, pSm_keep (fun c c1 c2 i => (f1 c (by omega) i).1) hb, hWS⟩
    rw [show (((604 + 413 * l : Nat) : Int)).toNat = 604 + 413 * l from rfl, (f1 293 (by decide) _).1, hx.2.2.1]; rfl
  refine zok_cm (m_shows hC) (fun m3 h3 => zok_some ⟨⟨b, _, h3.2.2.cx hC, h3.1, fun f hf => Or.inl (h3.2.1 f hf).1, fun f hf => (h3.2.1 f hf).2, fun f hf ht => ?_, ?_⟩, ?_⟩)
  · have e : ∀ i, zI m3 293 i = zI μ 293 i := fun i => ((h3.2.2.1 293 (by unfold mVc; omega) i).1).trans (f1 293 (by decide) i).1
    rw [e]
    exact ⟨(hx.2.2.2 f hf).1, fun i hi => by rw [e]; exact (hx.2.2.2 f hf).2 i hi⟩
  · rw [(h3.2.2.1 293 (by unfold mVc; omega) 1).1, (f1 293 (by decide) 1).1]; exact hp.2.1
  · exact ⟨(f1.mono (fun c hc => by omega)).tr (h3.2.2.1.mono (fun c hc => by unfold mVc; omega)), fun i => (h3.2.2.2.1 i).trans (f2 i), fun i hi => (h3.2.2.2.2 i (by omega)).trans (f3 i (by omega) (by omega))⟩
theorem rM.lb (hR : rM A μ) : rLb (aN A) (aL A) μ := hR.1
/-- noSnippet, noSession -/
theorem nsn1 (hA : wA c A) (hR : rM A μ) (h0 : zI μ 292 0 = 0) {k : Int} (h : 0 ≤ k ∧ k < aN A) : f7_noSnippet k μ = some (false, μ) := by
  have hn := hA.1.1
  obtain ⟨b, b1, b2, b3, b4, b5⟩ := hR.1
  unfold f7_noSnippet
  rw [b2, b4, zgl_s ⟨by omega, by omega⟩, win_eq, zco_s, decide_eq_true (by omega), if_neg (by decide)]
  unfold f7_noSnippet_23
  rw [thr0 h0, zcl_s]
theorem nsn0 (hA : wA c A) (hR : rM A μ) (h0 : zI μ 292 0 = 0) {k : Int} (h : ¬ (0 ≤ k ∧ k < aN A)) : f7_noSnippet k μ = some (true, zsI μ 292 0 1) := by
  have hn := hA.1.1
  obtain ⟨b, b1, b2, b3, b4, b5⟩ := hR.1
  unfold f7_noSnippet
  rw [b2, b4, zgl_s ⟨by omega, by omega⟩, win_eq, zco_s, decide_eq_false (by omega), if_pos (show zb false = 0 from rfl)]
  unfold f7_noSnippet_23
  rw [thr1 h0 (by decide), zcl_s]
theorem nss0 (hR : rM A μ) (h0 : zI μ 292 0 = 0) (hq : qD A = 0) {k : Int} (hk : 0 < k) : f7_noSession k μ = some (true, zsI μ 292 0 k) := by
  have e : zI μ 293 (zx 0) = 0 := by rw [show zx 0 = 0 from rfl, hR.2.1.1]; show ((qD A : Nat) : Int) = 0; omega
  unfold f7_noSession
  rw [zgd_s (show zin 0 (zln 293) from ⟨by decide, by rw [zl_m.1]; decide⟩), if_pos e]
  unfold f7_noSession_15
  rw [thr1 h0 hk, zcl_s, if_neg (by decide)]
theorem nss1 (hA : wA c A) (hR : rM A μ) (h0 : zI μ 292 0 = 0) (hq : qD A ≠ 0) (k : Int) : ∃ m, f7_noSession k μ = some (false, m) ∧ mLk (aL A) (aS A) (qD A - 1) m ∧ mScr μ m := by
  have hl : qD A - 1 < tD (aS A) := by show qD A - 1 < qD A; omega
  have hd : qD A ≤ 4 := hA.2.1.1.2.1
  have hx := hA.2.1.2 _ hl
  obtain ⟨m, e1, h1, h2⟩ := m_lays hR.lb hA.1.1 hA.1.2 hR.2.1 hA.2.1.1 hl ⟨hx.1, hx.2.1⟩
  refine ⟨m, ?_, h1, h2⟩
  have e : zI μ 293 (zx 0) = (qD A : Nat) := hR.2.1.1
  have hin : zin 0 (zln 293) := ⟨by decide, by rw [zl_m.1]; decide⟩
  unfold f7_noSession
  rw [zgd_s hin, e, if_neg (by omega)]
  unfold f7_noSession_15
  rw [thr0 h0, zcl_s, if_pos (show zb false = 0 from rfl), zgd_s hin, e, zgl_s ⟨by omega, by omega⟩, show ((qD A : Nat) : Int) - 1 = ((qD A - 1 : Nat) : Int) by omega, e1, zcm_s]
theorem z0 (hR : rM A μ) : rM A (zsI μ 292 0 0) ∧ zI (zsI μ 292 0 0) 292 0 = 0 := ⟨hR.z 0, zI_eq rfl rfl⟩
theorem n_size (hR : rM A μ) (w : Int) : zok (f7_size w μ) (mOk A μ (spSize A w)) := by
  obtain ⟨hR1, h0⟩ := z0 hR
  unfold f7_size
  refine zok_lt ?_
  rw [win_eq, zco_s]
  by_cases hw : 0 ≤ w ∧ w ≤ 5
  · rw [decide_eq_true hw]
    refine zok_f (by decide) ?_
    obtain ⟨⟨b, b1, b2, b3, b4, b5⟩, h2, h3, h4, h5, h6, h7⟩ := hR1
    unfold f7_size_20
    rw [thr0 h0, zcl_s]
    refine zok_t rfl ?_
    rw [b2, b4, show zx 0 = 0 from rfl, show zx 1 = 1 from rfl, show zx 2 = 2 from rfl, h2.1, show zI (zsI μ 292 0 0) 293 1 = _ from h2.2.1, show zI (zsI μ 292 0 0) 293 2 = _ from h2.2.2.1, h3.1, h6.1]
    refine zok_if (fun e => zok_some ?_) (fun e0 => zok_if (fun e => zok_gd ⟨by decide, by rw [zl_m.1]; decide⟩ (zok_some ?_)) (fun e1 => zok_if (fun e => zok_gd ⟨by decide, by rw [zl_m.1]; decide⟩ (zok_some ?_)) (fun e2 => zok_if (fun e => zok_gd ⟨by decide, by rw [zl_m.1]; decide⟩ (zok_some ?_)) (fun e3 => zok_if (fun e => zok_some ?_) (fun e4 => zok_some ?_)))))
    · unfold spSize; rw [if_pos e]; exact mOk.v hR mScr.rf rfl
    · unfold spSize; rw [if_neg e0, if_pos e]; exact mOk.v hR mScr.rf rfl
    · unfold spSize; rw [if_neg e0, if_neg e1, if_pos e]; exact mOk.v hR mScr.rf rfl
    · unfold spSize; rw [if_neg e0, if_neg e1, if_neg e2, if_pos e]; exact mOk.v hR mScr.rf rfl
    · unfold spSize; rw [if_neg e0, if_neg e1, if_neg e2, if_neg e3, if_pos e]; exact mOk.v hR mScr.rf rfl
    · unfold spSize; rw [if_neg e0, if_neg e1, if_neg e2, if_neg e3, if_neg e4, if_pos (by omega)]; exact mOk.v hR mScr.rf rfl
  · rw [decide_eq_false hw]
    refine zok_t rfl ?_
    unfold f7_size_20
    rw [thr1 h0 (by decide), zcl_s]
    refine zok_f (by decide) (zok_some ?_)
    have es : spSize A w = .inl 1 := by unfold spSize; rw [if_neg (by omega), if_neg (by omega), if_neg (by omega), if_neg (by omega), if_neg (by omega), if_neg (by omega)]
    rw [es]
    exact mOk.x hR mScr.rf 1
theorem b_fieldsOf {b k : Nat} {S : zSn} (hb : okB b) (h8 : zR μ 292 8 = b) (hk : k < 8) (hS : pSm μ b k S) (hW : wS S) : zok (f7_fieldsOf (k : Int) μ) (fun r => r = fsI S) := by
  obtain ⟨b1, b2, b3, b4, b5, b6, b7, b8, b9, b10, b11, b12, b13⟩ := okB_f hb
  have hn := hW.1
  unfold f7_fieldsOf
  refine zok_x2 (fun (x2 x3 : Int) => ∃ j : Nat, x3 = j ∧ j ≤ sN S ∧ zr x2 ∧ ∀ i, i < 32 → mbit x2 i = decide (∃ o, o < j ∧ sF S o = (i : Nat))) (fun _ x3 => 60 - x3.toNat) (fun kk x2 x3 hx ih => ?_) zFu 0 0 ⟨0, rfl, by omega, ⟨by decide, by decide⟩, fun i _ => by rw [mbit_0]; exact (decide_eq_false (fun ⟨o, h, _⟩ => absurd h (Nat.not_lt_zero o))).symm⟩ (by show 60 - 0 < 100000; omega)
  obtain ⟨j, rfl, h1, h2, h3⟩ := hx
  unfold f7_fieldsOf_4
  rw [h8, b5, b6, zx_nat, hS.2.2.1]
  refine zok_gd ⟨by omega, by omega⟩ (zok_if (fun h => zok_some ?_) (fun h => zok_gl ⟨by omega, by omega⟩ (zok_gl ⟨by omega, by omega⟩ (zok_gd ⟨by omega, by omega⟩ (zok_lt (zok_lt (zok_gl ⟨by omega, by omega⟩ (ih _ _ ⟨j + 1, by omega, by omega, zr_of _, fun i hi => ?_⟩ (by show 60 - ((j : Int) + 1).toNat < 60 - (j : Int).toNat; omega)))))))))
  · refine setI_eq h2 (fun i hi => by rw [h3 i hi, show j = sN S by omega]) (fun i hi => decide_eq_false (fun ⟨o, q1, q2⟩ => ?_))
    have := hW.2.2.2.1 o q1
    omega
  · have hj : j < sN S := by omega
    obtain ⟨f1, f2, -⟩ := hW.2.2.2.1 j hj
    rw [show zx (60 * (k : Int) + (j : Int)) = 60 * k + j from by show (60 * (k : Int) + (j : Int)).toNat = _; omega, (hS.2.2.2.1 j hj).1, mbit_or, h3 i hi, mbit_shl f1 (by omega)]
    by_cases e : sF S j = (i : Nat)
    · rw [decide_eq_true (p := (i : Int) = sF S j) e.symm, Bool.or_true]
      exact (decide_eq_true ⟨j, by omega, e⟩).symm
    · rw [decide_eq_false (p := (i : Int) = sF S j) (fun q => e q.symm), Bool.or_false]
      apply decide_eq_decide.mpr
      exact ⟨fun ⟨o, q1, q2⟩ => ⟨o, by omega, q2⟩, fun ⟨o, q1, q2⟩ => ⟨o, by
        by_cases e2 : o = j
        · subst e2; exact absurd q2 e
        · omega, q2⟩⟩
theorem b_deepest {b k : Nat} {S : zSn} (hb : okB b) (h8 : zR μ 292 8 = b) (hk : k < 8) (hS : pSm μ b k S) (hW : wS S) : zok (f7_deepest (k : Int) μ) (fun r => r = dpF S (sN S)) := by
  obtain ⟨b1, b2, b3, b4, b5, b6, b7, b8, b9, b10, b11, b12, b13⟩ := okB_f hb
  have hn := hW.1
  unfold f7_deepest
  refine zok_x2 (fun (x2 x3 : Int) => ∃ j : Nat, x3 = j ∧ j ≤ sN S ∧ x2 = dpF S j) (fun _ x3 => 60 - x3.toNat) (fun kk x2 x3 hx ih => ?_) zFu 0 0 ⟨0, rfl, by omega, rfl⟩ (by show 60 - 0 < 100000; omega)
  obtain ⟨j, rfl, h1, rfl⟩ := hx
  unfold f7_deepest_4
  rw [h8, b5, b12, zx_nat, hS.2.2.1]
  refine zok_gd ⟨by omega, by omega⟩ (zok_if (fun h => zok_some (by rw [show j = sN S by omega])) (fun h => zok_gl ⟨by omega, by omega⟩ (zok_gl ⟨by omega, by omega⟩ (zok_gd ⟨by omega, by omega⟩ (zok_lt (zok_gl ⟨by omega, by omega⟩ (ih _ _ ⟨j + 1, by omega, by omega, ?_⟩ (by show 60 - ((j : Int) + 1).toNat < 60 - (j : Int).toNat; omega))))))))
  rw [show zx (60 * (k : Int) + (j : Int)) = 60 * k + j from by show (60 * (k : Int) + (j : Int)).toNat = _; omega, (hS.2.2.2.1 j (by omega)).2.2.2.2]; rfl
theorem b_defs {b k : Nat} {S : zSn} (hb : okB b) (h8 : zR μ 292 8 = b) (hk : k < 8) (hS : pSm μ b k S) (hW : wS S) : zok (f7_defaults (k : Int) μ) (fun r => r = (nDef S : Nat)) := by
  obtain ⟨b1, b2, b3, b4, b5, b6, b7, b8, b9, b10, b11, b12, b13⟩ := okB_f hb
  have hn := hW.1
  unfold f7_defaults
  refine zok_x2 (fun (x2 x3 : Int) => ∃ j : Nat, x3 = j ∧ j ≤ sN S ∧ x2 = (cnt (fun o => decide (sD S o = 1)) j : Nat)) (fun _ x3 => 60 - x3.toNat) (fun kk x2 x3 hx ih => ?_) zFu 0 0 ⟨0, rfl, by omega, rfl⟩ (by show 60 - 0 < 100000; omega)
  obtain ⟨j, rfl, h1, rfl⟩ := hx
  have hc := cnt_le (fun o => decide (sD S o = 1)) j
  have e := cnt_s (fun o => decide (sD S o = 1)) j
  unfold f7_defaults_4
  rw [h8, b5, b8, zx_nat, hS.2.2.1]
  refine zok_gd ⟨by omega, by omega⟩ (zok_if (fun h => zok_some (by rw [show j = sN S by omega]; rfl)) (fun h => zok_gl ⟨by omega, by omega⟩ (zok_gl ⟨by omega, by omega⟩ (zok_gd ⟨by omega, by omega⟩ ?_))))
  rw [show zx (60 * (k : Int) + (j : Int)) = 60 * k + j from by show (60 * (k : Int) + (j : Int)).toNat = _; omega, (hS.2.2.2.1 j (by omega)).2.2.1]
  have hd := (hW.2.2.2.1 j (by omega)).2.2.2.2.1
  refine zok_if (fun h0 => ?_) (fun h0 => ?_)
  · rw [if_neg (by simp [h0])] at e
    exact zok_gl ⟨by omega, by omega⟩ (zok_gl ⟨by omega, by omega⟩ (ih _ _ ⟨j + 1, by omega, by omega, by rw [e]; rfl⟩ (by show 60 - ((j : Int) + 1).toNat < 60 - (j : Int).toNat; omega)))
  · rw [if_pos (by simp [hd.resolve_left h0])] at e
    exact zok_gl ⟨by omega, by omega⟩ (zok_gl ⟨by omega, by omega⟩ (ih _ _ ⟨j + 1, by omega, by omega, by rw [e]; rfl⟩ (by show 60 - ((j : Int) + 1).toNat < 60 - (j : Int).toNat; omega)))
theorem n_snippet (hA : wA c A) (hR : rM A μ) (k w : Int) : zok (f7_snippet k w μ) (mOk A μ (spSnippet A k w)) := by
  obtain ⟨hR1, h0⟩ := z0 hR
  have hn8 := hA.1.1
  unfold f7_snippet
  refine zok_lt ?_
  by_cases hk : 0 ≤ k ∧ k < aN A
  · rw [nsn1 hA hR1 h0 hk, zcl_s]
    refine zok_t rfl ?_
    rw [win_eq, zco_s]
    obtain ⟨j, rfl⟩ : ∃ j : Nat, k = j := ⟨k.toNat, by omega⟩
    have hj : j < aN A := by omega
    by_cases hw : 0 ≤ w ∧ w ≤ 5
    · rw [decide_eq_true hw]
      refine zok_f (by decide) ?_
      unfold f7_snippet_28
      rw [thr0 h0, zcl_s]
      refine zok_t rfl ?_
      obtain ⟨b, b1, b2, b3, b4, b5⟩ := hR1.1
      obtain ⟨l1, l2, l3, l4, l5, l6, l7, l8, l9, l10, l11, l12, l13⟩ := okB_f b1
      have hS := b5 j hj
      have hW := hA.1.2 j hj
      have es : spSnippet A (j : Int) w = if w = 0 then .inr (sNm (aL A j)).length else if w = 1 then .inr (sN (aL A j)) else if w = 2 then .inr (fsI (aL A j)) else if w = 3 then .inr (dpF (aL A j) (sN (aL A j))) else if w = 4 then .inr (nDef (aL A j)) else if w = 5 then .inr (sT (aL A j)) else .inl 2 := by unfold spSnippet; rw [if_neg (fun q => q hk)]; rfl
      rw [b2, l2, l3, l5, zx_nat, hS.1, hS.2.2.1]
      refine zok_if (fun e => zok_gd ⟨by omega, by omega⟩ (zok_some ?_)) (fun e0 => zok_if (fun e => zok_gd ⟨by omega, by omega⟩ (zok_some ?_)) (fun e1 => zok_if (fun e => zok_co (b_fieldsOf b1 b2 (by omega) hS hW) (fun r hr => zok_some ?_)) (fun e2 => zok_if (fun e => zok_co (b_deepest b1 b2 (by omega) hS hW) (fun r hr => zok_some ?_)) (fun e3 => zok_if (fun e => zok_co (b_defs b1 b2 (by omega) hS hW) (fun r hr => zok_some ?_)) (fun e4 => ?_)))))
      · rw [es, if_pos e]; exact mOk.v hR mScr.rf rfl
      · rw [es, if_neg e0, if_pos e]; exact mOk.v hR mScr.rf rfl
      · rw [es, if_neg e0, if_neg e1, if_pos e]; exact mOk.v hR mScr.rf hr
      · rw [es, if_neg e0, if_neg e1, if_neg e2, if_pos e]; exact mOk.v hR mScr.rf hr
      · rw [es, if_neg e0, if_neg e1, if_neg e2, if_neg e3, if_pos e]; exact mOk.v hR mScr.rf hr
      · have h6 := hS.2.2.2.2.2.1
        have hc := cnt_le (fun o => decide (sD (aL A j) o = 1)) (sN (aL A j))
        have hn := hW.1
        rw [es, if_neg e0, if_neg e1, if_neg e2, if_neg e3, if_neg e4, if_pos (by omega)]
        refine zok_gl ⟨by omega, by omega⟩ (zok_gd ⟨by omega, by omega⟩ (zok_gd ⟨by omega, by omega⟩ ?_))
        rw [show zx ((j : Int) + 1) = j + 1 from by show ((j : Int) + 1).toNat = _; omega]
        refine zok_gl ⟨by omega, by omega⟩ (zok_gd ⟨by omega, by omega⟩ (zok_gl ⟨by omega, by omega⟩ (zok_co (b_defs b1 b2 (by omega) hS hW) (fun r hr => ?_))))
        have hr' : r = ((cnt (fun o => decide (sD (aL A j) o = 1)) (sN (aL A j)) : Nat) : Int) := hr
        exact zok_gl ⟨by omega, by omega⟩ (zok_some (mOk.v hR mScr.rf (by omega)))
    · rw [decide_eq_false hw]
      refine zok_t rfl ?_
      unfold f7_snippet_28
      rw [thr1 h0 (by decide), zcl_s]
      refine zok_f (by decide) (zok_some ?_)
      have es : spSnippet A (j : Int) w = .inl 2 := by unfold spSnippet; rw [if_neg (fun q => q hk), if_neg (by omega), if_neg (by omega), if_neg (by omega), if_neg (by omega), if_neg (by omega), if_neg (by omega)]
      rw [es]
      exact mOk.x hR mScr.rf 2
  · rw [nsn0 hA hR1 h0 hk, zcl_s]
    refine zok_f (by decide) (zok_some ?_)
    unfold spSnippet
    rw [if_pos hk]
    exact mOk.x hR mScr.rf 1
theorem n_letter (hA : wA c A) (hR : rM A μ) (k i : Int) : zok (f7_letter k i μ) (mOk A μ (spLetter A k i)) := by
  obtain ⟨hR1, h0⟩ := z0 hR
  have hn8 := hA.1.1
  unfold f7_letter
  refine zok_lt ?_
  by_cases hk : 0 ≤ k ∧ k < aN A
  · rw [nsn1 hA hR1 h0 hk, zcl_s]
    refine zok_t rfl ?_
    obtain ⟨j, rfl⟩ : ∃ j : Nat, k = j := ⟨k.toNat, by omega⟩
    have hj : j < aN A := by omega
    obtain ⟨b, b1, b2, b3, b4, b5⟩ := hR1.1
    obtain ⟨l1, l2, l3, l4, l5, l6, l7, l8, l9, l10, l11, l12, l13⟩ := okB_f b1
    have hS := b5 j hj
    have hW := (hA.1.2 j hj).2.1
    have es : spLetter A (j : Int) i = if 0 ≤ i ∧ i < (sNm (aL A j)).length then .inr ((sNm (aL A j)).getD i.toNat 0) else .inr (-1) := by unfold spLetter; rw [if_neg (fun q => q hk)]; rfl
    rw [b2, l2, l1, zx_nat, hS.1, es]
    refine zok_gd ⟨by omega, by omega⟩ (zok_gl ⟨by omega, by omega⟩ ?_)
    rw [win_eq, zco_s]
    by_cases hi : 0 ≤ i ∧ i < (sNm (aL A j)).length
    · rw [decide_eq_true (by omega), if_pos hi]
      refine zok_f (by decide) (zok_gl ⟨by omega, by omega⟩ (zok_gl ⟨by omega, by omega⟩ (zok_gd ⟨by omega, by omega⟩ (zok_some (mOk.v hR mScr.rf ?_)))))
      rw [show zx (8 * (j : Int) + i) = 8 * j + i.toNat from by show (8 * (j : Int) + i).toNat = _; omega]
      exact hS.2.1 _ (by omega)
    · rw [decide_eq_false (by omega), if_neg hi]
      exact zok_t rfl (zok_some (mOk.v hR mScr.rf rfl))
  · rw [nsn0 hA hR1 h0 hk, zcl_s]
    refine zok_f (by decide) (zok_some ?_)
    unfold spLetter
    rw [if_pos hk]
    exact mOk.x hR mScr.rf 1
theorem n_depends (hA : wA c A) (hR : rM A μ) (k f : Int) : zok (f7_depends k f μ) (mOk A μ (spDepends A k f)) := by
  obtain ⟨hR1, h0⟩ := z0 hR
  have hn8 := hA.1.1
  unfold f7_depends
  refine zok_lt ?_
  by_cases hk : 0 ≤ k ∧ k < aN A
  · rw [nsn1 hA hR1 h0 hk, zcl_s]
    refine zok_t rfl ?_
    rw [isf_eq, zco_s]
    by_cases hf : 0 ≤ f ∧ f < 10
    · rw [decide_eq_true (by omega)]
      refine zok_f (by decide) ?_
      unfold f7_depends_26
      rw [thr0 h0, zcl_s]
      refine zok_t rfl ?_
      obtain ⟨b, b1, b2, b3, b4, b5⟩ := hR1.1
      obtain ⟨l1, l2, l3, l4, l5, l6, l7, l8, l9, l10, l11, l12, l13⟩ := okB_f b1
      have hS := b5 k.toNat (by omega)
      rw [b2, l13]
      refine zok_gl ⟨by omega, by omega⟩ (zok_gl ⟨by omega, by omega⟩ (zok_gd ⟨by omega, by omega⟩ (zok_some ?_)))
      unfold spDepends
      rw [if_neg (fun q => q hk), if_neg (fun q => q hf), show zx (10 * k + f) = 10 * k.toNat + f.toNat from by show (10 * k + f).toNat = _; omega]
      exact mOk.v hR mScr.rf (hS.2.2.2.2.1 _ (by omega))
    · rw [decide_eq_false (by omega)]
      refine zok_t rfl ?_
      unfold f7_depends_26
      rw [thr1 h0 (by decide), zcl_s]
      refine zok_f (by decide) (zok_some ?_)
      unfold spDepends
      rw [if_neg (fun q => q hk), if_pos hf]
      exact mOk.x hR mScr.rf 1
  · rw [nsn0 hA hR1 h0 hk, zcl_s]
    refine zok_f (by decide) (zok_some ?_)
    unfold spDepends
    rw [if_pos hk]
    exact mOk.x hR mScr.rf 1
theorem n_document (hA : wA c A) (hR : rM A μ) (i : Int) : zok (f7_document i μ) (mOk A μ (spDocument A i)) := by
  obtain ⟨hR1, h0⟩ := z0 hR
  have hd := hA.2.1.1.2.2.1
  have h2 := hR1.2.1
  unfold f7_document
  refine zok_lt (zok_gd ⟨by decide, by rw [zl_m.1]; decide⟩ ?_)
  rw [show zx 2 = 2 from rfl, show zI (zsI μ 292 0 0) 293 2 = _ from h2.2.2.1]
  refine zok_gl ⟨by omega, by omega⟩ ?_
  rw [win_eq, zco_s]
  by_cases hi : 0 ≤ i ∧ i < (tDoc (aS A)).length
  · rw [decide_eq_true (by omega)]
    refine zok_f (by decide) ?_
    unfold f7_document_27
    rw [thr0 h0, zcl_s]
    have es : spDocument A i = .inr ((tDoc (aS A)).getD i.toNat 0) := by unfold spDocument; rw [if_neg (fun q => q hi)]
    rw [es]
    refine zok_t rfl (zok_gl ⟨by omega, by omega⟩ (zok_gd ⟨by omega, by rw [zl_m.1]; omega⟩ (zok_some (mOk.v hR mScr.rf ?_))))
    have := h2.2.2.2.1 i.toNat (by omega)
    rw [show zx (4 + i) = 0 + 4 + i.toNat from by show (4 + i).toNat = _; omega]
    exact this
  · rw [decide_eq_false (by omega)]
    refine zok_t rfl ?_
    unfold f7_document_27
    rw [thr1 h0 (by decide), zcl_s]
    have es : spDocument A i = .inl 1 := by unfold spDocument; rw [if_pos hi]
    rw [es]
    exact zok_f (by decide) (zok_some (mOk.x hR mScr.rf 1))
theorem n_account (hR : rM A μ) (w : Int) : zok (f7_account w μ) (mOk A μ (spAccount A w)) := by
  obtain ⟨hR1, h0⟩ := z0 hR
  unfold f7_account
  refine zok_lt ?_
  rw [win_eq, zco_s]
  by_cases hw : 0 ≤ w ∧ w ≤ 9
  · rw [decide_eq_true hw]
    refine zok_f (by decide) ?_
    unfold f7_account_21
    rw [thr0 h0, zcl_s]
    have es : spAccount A w = .inr (aC A w.toNat) := by unfold spAccount; rw [if_neg (fun q => q hw)]
    rw [es]
    exact zok_t rfl (zok_gd ⟨by omega, by rw [zl_m.2.2.2.2.2.1]; omega⟩ (zok_some (mOk.v hR mScr.rf (hR1.2.2.2.2.1 w.toNat (by omega)))))
  · rw [decide_eq_false hw]
    refine zok_t rfl ?_
    unfold f7_account_21
    rw [thr1 h0 (by decide), zcl_s]
    have es : spAccount A w = .inl 1 := by unfold spAccount; rw [if_pos hw]
    rw [es]
    exact zok_f (by decide) (zok_some (mOk.x hR mScr.rf 1))
theorem hN_le {s : zSt} (hs : wSt s) {l : Nat} (hl : l < tD s) : ∀ f, f < 10 → hN s l f ≤ 400 := fun f hf => by
  have := ((hs.2.2.2 l hl).2.2.2.2 f hf).1
  show (tX s l f).length ≤ 400
  omega
theorem mLk.len (hk : mLk L s l m) : ∀ f, f < 10 → hT s l f = true → zI m 293 ((((604 + 413 * l : Nat) : Int)).toNat + 3 + f) = hN s l f := by
  obtain ⟨b, k, h1, h2, h3, h4, h5, h6⟩ := hk
  exact fun f hf ht => (h5 f hf ht).1
theorem k_textLength (hs : wSt s) (hl : l < tD s) (hk : mLk L s l m) : zok (f7_textLength m) (fun r => r.1 = ((min (hTL L s l) 100000 : Nat) : Int) ∧ mScr m r.2 ∧ mJ (hS L s l) (hT s l) (hN s l) m r.2) := by
  have hlen := hk.len
  obtain ⟨b, k, h1, h2, h3, h4, h5, h6⟩ := hk
  have hJ : mJ (hS L s l) (hT s l) (hN s l) m m := ⟨zSm.rf, h3⟩
  refine zok_mono (m_textLength h1 h2 hlen (hN_le hs hl) hJ) (fun r hr => ⟨?_, hr.2.scr, hr.2⟩)
  rw [hr.1, mTL_eq h1.2.2.2.2.2.2.2 _ (hN_le hs hl)]; rfl
theorem lvI_m {S : zSn} {ty : Nat → Bool} (hW : wS S) (hV : mShown S ty m) : zI m 292 27 = setI (vLv S ty) 10 := setI_eq hV.2.2.1 hV.2.2.2 (vLv_10 hW ty)
theorem n_session (hA : wA c A) (hR : rM A μ) (l w : Int) : zok (f7_session l w μ) (mOk A μ (spSession A l w)) := by
  obtain ⟨hR1, h0⟩ := z0 hR
  have hd : tD (aS A) ≤ 4 := hA.2.1.1.2.1
  have h2 := hR1.2.1
  unfold f7_session
  refine zok_lt (zok_gd ⟨by decide, by rw [zl_m.1]; decide⟩ ?_)
  rw [show zx 0 = 0 from rfl, h2.1]
  refine zok_gl ⟨by omega, by omega⟩ ?_
  rw [win_eq, zco_s]
  by_cases hl : 0 ≤ l ∧ l < qD A
  · rw [decide_eq_true (by show 0 ≤ l ∧ l ≤ ((qD A : Nat) : Int) - 1; omega)]
    refine zok_f (by decide) ?_
    unfold f7_session_27
    rw [thr0 h0, zcl_s]
    refine zok_t rfl ?_
    rw [win_eq, zco_s]
    obtain ⟨j, rfl⟩ : ∃ j : Nat, l = j := ⟨l.toNat, by omega⟩
    have hj : j < tD (aS A) := by show j < qD A; omega
    have es : spSession A (j : Int) w = if w = 0 then .inr (tS (aS A) j) else if w = 1 then .inr (tC (aS A) j) else if w = 2 then .inr (tY (aS A) j) else if w = 3 then .inr (hTL (aL A) (aS A) j) else if w = 4 then .inr (setI (vLv (hS (aL A) (aS A) j) (hT (aS A) j)) 10) else .inl 2 := by unfold spSession; rw [if_neg (fun q => q hl)]; rfl
    by_cases hw : 0 ≤ w ∧ w ≤ 4
    · rw [decide_eq_true hw]
      refine zok_f (by decide) ?_
      unfold f7_session_49
      rw [thr0 h0, zcl_s]
      refine zok_t rfl ?_
      have hx := hA.2.1.2 _ hj
      refine zok_cm (m_lays hR1.lb hA.1.1 hA.1.2 h2 hA.2.1.1 hj ⟨hx.1, hx.2.1⟩) (fun m hm => ?_)
      obtain ⟨hk, hsc⟩ := hm
      have hk' := hk
      obtain ⟨b, k, g1, g2, g3, g4, g5, g6⟩ := hk
      refine zok_if (fun h3 => zok_if (fun e3 => ?_) (fun e3 => zok_some ?_)) (fun h3 => ?_)
      · rw [es, if_neg (by omega), if_neg (by omega), if_neg (by omega), if_pos e3]
        refine zok_cl (k_textLength hA.2.1.1 hj hk') (fun r m' hr => zok_some (mOk.v hR (hsc.tr hr.2.1) ?_))
        have hr1 : r = ((min (hTL (aL A) (aS A) j) 100000 : Nat) : Int) := hr.1
        have := hx.2.2.2
        omega
      · rw [es, if_neg (by omega), if_neg (by omega), if_neg (by omega), if_neg e3, if_pos (by omega)]
        exact mOk.v hR hsc (lvI_m (hA.S hj) g2)
      · rw [g1.2.2.2.2.1]
        refine zok_gl ⟨by omega, by omega⟩ (zok_gd ⟨by omega, by rw [zl_m.1]; omega⟩ (zok_some ?_))
        have hrow : ∀ i, zI m 293 i = zI (zsI μ 292 0 0) 293 i := fun i => (hsc.1 293 (by omega) i).1
        have hx2 := h2.2.2.2.2 j hj
        simp only [Nat.zero_add] at hx2
        rw [hrow, show zx (((604 + 413 * j : Nat) : Int) + w) = 604 + 413 * j + w.toNat from by show (((604 + 413 * j : Nat) : Int) + w).toNat = _; omega, es]
        rcases (show w = 0 ∨ w = 1 ∨ w = 2 by omega) with rfl | rfl | rfl
        · rw [if_pos rfl]; exact mOk.v hR hsc hx2.1
        · rw [if_neg (by decide), if_pos rfl]; exact mOk.v hR hsc hx2.2.1
        · rw [if_neg (by decide), if_neg (by decide), if_pos rfl]; exact mOk.v hR hsc hx2.2.2.1
    · rw [decide_eq_false hw]
      refine zok_t rfl ?_
      unfold f7_session_49
      rw [thr1 h0 (by decide), zcl_s]
      refine zok_f (by decide) (zok_some ?_)
      rw [es, if_neg (by omega), if_neg (by omega), if_neg (by omega), if_neg (by omega), if_neg (by omega)]
      exact mOk.x hR mScr.rf 2
  · rw [decide_eq_false (by show ¬ (0 ≤ l ∧ l ≤ ((qD A : Nat) : Int) - 1); omega)]
    refine zok_t rfl ?_
    unfold f7_session_27
    rw [thr1 h0 (by decide), zcl_s]
    refine zok_f (by decide) (zok_some ?_)
    unfold spSession
    rw [if_pos hl]
    exact mOk.x hR mScr.rf 1
end mFace
