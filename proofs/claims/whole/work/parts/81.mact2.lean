/-! THE REFERENCE'S ACTS -/
theorem wSt_ty {s : zSt} (h : wSt s) {l f : Nat} (hf : f < 10) {x : List Int} (hx : x.length ≤ 40) : wSt (stType s l f x) := by
  obtain ⟨a1, a2, a3, a4⟩ := h
  refine ⟨a1, a2, a3, fun l' hl' => ?_⟩
  obtain ⟨c1, c2, c3, c4, c5⟩ := a4 l' hl'
  have eY : tY (stType s l f x) l' = if l' = l then zor (tY s l) (zshl 1 (f : Nat)) else tY s l' := rfl
  have eX : ∀ g, tX (stType s l f x) l' g = if l' = l ∧ g = f then x else tX s l' g := fun g => rfl
  rw [eY]
  by_cases q : l' = l
  · subst q
    rw [if_pos rfl]
    refine ⟨trivial, trivial, zr_of _, fun i h1 h2 => by rw [mb_on hf, if_neg (by omega)]; exact c4 i h1 h2, fun g hg => ?_⟩
    rw [eX]
    by_cases q2 : g = f
    · rw [if_pos ⟨rfl, q2⟩, mb_on hf, if_pos q2]; exact ⟨hx, fun h => by cases h⟩
    · rw [if_neg (fun h => q2 h.2), mb_on hf, if_neg q2]; exact c5 g hg
  · rw [if_neg q]
    refine ⟨trivial, trivial, c3, c4, fun g hg => ?_⟩
    rw [eX, if_neg (fun h => q h.1)]; exact c5 g hg
theorem wSt_dep {s : zSt} (h : wSt s) {d : Nat} (hd : d ≤ tD s) : wSt (stDep s d) := ⟨h.1, Nat.le_trans hd h.2.1, h.2.2.1, fun l hl => h.2.2.2 l (Nat.lt_of_lt_of_le hl hd)⟩
section mAct2
variable {A : zA} {c : Int} {μ m : zM} {s : zSt}
theorem hAcc (hA : wA c A) (hc : c ≤ 1000) : ∀ i, i < 10 → 0 ≤ aC A i ∧ aC A i ≤ 1000 := fun i hi => by have := hA.2.2.2.2.2 i hi; omega
theorem hUn (hA : wA c A) : (aU A).length ≤ 8 ∧ ∀ t ∈ aU A, wSt t := ⟨hA.2.2.1.1, fun t ht => (hA.2.2.1.2 t ht).1⟩
theorem n_start (hA : wA c A) (hR : rM A μ) : zok (f7_begins (zsI μ 292 0 0)) (fun m' => mB A μ m' ∧ pMs m' 293 0 (aS A)) :=
  b_begins hA.2.1.1 (hR.z 0) (zI_eq rfl rfl) (zSm.rf.sI (by omega))
theorem p_dep (hp : pMs m 293 0 s) : zI m 293 (zx 0) = (tD s : Nat) := hp.1
theorem zin0 : zin 0 (zln 293) := ⟨by decide, by rw [zl_m.1]; decide⟩
theorem n_drop (hA : wA c A) (hc : c ≤ 1000) (hR : rM A μ) : zok (f7_drop μ) (nAct A μ (spDrop A)) := by
  have hd : qD A ≤ 4 := hA.2.1.1.2.1
  have hd' : tD (aS A) ≤ 4 := hd
  unfold f7_drop
  refine zok_lt (zok_cm (n_start hA hR) (fun m2 h2 => zok_gd zin0 ?_))
  obtain ⟨hB, hp⟩ := h2
  rw [p_dep hp]
  by_cases hq : qD A = 0
  · have es : spDrop A = .inl 1 := by unfold spDrop; rw [if_pos hq]
    rw [es]
    exact zok_t (by show ((qD A : Nat) : Int) = 0; omega) (zok_cl (b_refused hA.2.1.1 (hAcc hA hc) hB (by decide) (by decide)) (fun x m hx => zok_some hx))
  · have es : spDrop A = .inr ((qD A - 1 : Nat), stDep (aS A) (qD A - 1)) := by unfold spDrop; rw [if_neg hq]
    rw [es]
    refine zok_f (by show ¬ ((qD A : Nat) : Int) = 0; omega) (zok_gd zin0 (zok_gl ⟨by omega, by omega⟩ (zok_gd zin0 (zok_lt (zok_gd zin0 ?_)))))
    rw [show ((tD (aS A) : Nat) : Int) - 1 = ((qD A - 1 : Nat) : Int) by show ((qD A : Nat) : Int) - 1 = _; omega, zI_eq rfl rfl]
    exact zok_cl (b_done hA.2.1.1 (hAcc hA hc) (hUn hA) (hB.row (zSm.rf.sI (fun q => q rfl))) (pMs_dep (d := qD A - 1) (by show qD A - 1 ≤ qD A; omega) hp) _) (fun x m hx => zok_some hx)
theorem n_setOrder (hA : wA c A) (hc : c ≤ 1000) (hR : rM A μ) {o : Int} (ho : o = 0 ∨ o = 1) : zok (f7_setOrder o μ) (nAct A μ (spOrder A o)) := by
  unfold f7_setOrder
  refine zok_lt (zok_cm (n_start hA hR) (fun m2 h2 => zok_gd ⟨by decide, by rw [zl_m.1]; decide⟩ (zok_lt ?_)))
  obtain ⟨hB, hp⟩ := h2
  have go : ∀ v : Int, v = o → zok (f7_setOrder_30 o (zI m2 293 (zx 1)) v 1 m2) (nAct A μ (spOrder A o)) := by
    intro v hv
    unfold f7_setOrder_30
    refine zok_gd ⟨by decide, by rw [zl_m.1]; decide⟩ (zok_lt ?_)
    rw [show zx 1 = 1 from rfl, show zI m2 293 1 = tO (aS A) from hp.2.1, hv]
    refine zok_cl (b_done (s := stOrd (aS A) o) hA.2.1.1 (hAcc hA hc) (hUn hA) (hB.row (zSm.rf.sI (fun q => q rfl))) ?_ _) (fun x m hx => zok_some hx)
    obtain ⟨a1, a2, a3, a4, a5⟩ := hp
    exact ⟨(zI_ni (by omega)).trans a1, zI_eq rfl rfl, (zI_ni (by omega)).trans a3, fun i hi => (zI_ni (by omega)).trans (a4 i hi), fun l hl => ⟨(zI_ni (by omega)).trans (a5 l hl).1, (zI_ni (by omega)).trans (a5 l hl).2.1, (zI_ni (by omega)).trans (a5 l hl).2.2.1, fun f hf => ⟨(zI_ni (by omega)).trans ((a5 l hl).2.2.2 f hf).1, fun i hi => (zI_ni (by omega)).trans (((a5 l hl).2.2.2 f hf).2 i hi)⟩⟩⟩
  exact zok_if (fun h => go 0 h.symm) (fun h => go 1 (ho.resolve_left h).symm)
/-- the innermost session is laid -/
theorem b_lays (hA : wA c A) (hB : mB A μ m) (hp : pMs m 293 0 (aS A)) (hq : qD A ≠ 0) : zok (f7_lays (((qD A : Nat) : Int) - 1) m) (fun m' => mLk (aL A) (aS A) (qD A - 1) m' ∧ mScr m m') := by
  have hl : qD A - 1 < tD (aS A) := by show qD A - 1 < qD A; omega
  have hx := hA.2.1.2 _ hl
  rw [show ((qD A : Nat) : Int) - 1 = ((qD A - 1 : Nat) : Int) by omega]
  exact m_lays hB.1.1 hA.1.1 hA.1.2 hp hA.2.1.1 hl ⟨hx.1, hx.2.1⟩
theorem k_sa (hk : mLk (aL A) (aS A) (qD A - 1) m) : zI m 292 22 = ((604 + 413 * (qD A - 1) : Nat) : Int) := by
  obtain ⟨b, k, h1, -⟩ := hk
  exact h1.2.2.2.2.1
theorem n_go (hA : wA c A) (hc : c ≤ 1000) (hR : rM A μ) (f : Int) : zok (f7_go f μ) (fun r => (¬ (0 ≤ f ∧ f < 10) ∧ rM A r.2 ∧ zI r.2 292 0 = 1 ∧ zSm (fun c => c < 292 ∨ 338 < c) μ r.2) ∨ (0 ≤ f ∧ f < 10 ∧ nAct A μ (spGo A f.toNat) r)) := by
  obtain ⟨hR1, h0⟩ := z0 hR
  have hd : qD A ≤ 4 := hA.2.1.1.2.1
  have hd' : tD (aS A) ≤ 4 := hd
  unfold f7_go
  refine zok_lt ?_
  rw [isf_eq, zco_s]
  by_cases hf : 0 ≤ f ∧ f < 10
  · rw [decide_eq_true (by omega)]
    refine zok_f (by decide) ?_
    unfold f7_go_18
    rw [thr0 h0, zcl_s]
    obtain ⟨j, rfl⟩ : ∃ j : Nat, f = j := ⟨f.toNat, by omega⟩
    have hj : j < 10 := by omega
    refine zok_mono (P := nAct A μ (spGo A j)) ?_ (fun r hr => Or.inr ⟨hf.1, hf.2, hr⟩)
    refine zok_t rfl (zok_cm (n_start hA hR) (fun m2 h2 => zok_gd zin0 ?_))
    obtain ⟨hB, hp⟩ := h2
    rw [p_dep hp]
    by_cases hq : qD A = 0
    · have es : spGo A j = .inl 1 := by unfold spGo; rw [if_pos hq]
      rw [es]
      exact zok_t (by show ((qD A : Nat) : Int) = 0; omega) (zok_cl (b_refused hA.2.1.1 (hAcc hA hc) hB (by decide) (by decide)) (fun x m hx => zok_some hx))
    · obtain ⟨g1, g2, g3, g4, g5, g6, g7, g8, g9, g10⟩ := q_facts hA hq
      have hl : qD A - 1 < tD (aS A) := by show qD A - 1 < qD A; omega
      refine zok_f (by show ¬ ((qD A : Nat) : Int) = 0; omega) (zok_gd zin0 (zok_gl ⟨by omega, by omega⟩ (zok_cm (b_lays hA hB hp hq) (fun m3 h3 => ?_))))
      obtain ⟨hk, hs3⟩ := h3
      have hB3 := hB.scr hs3
      have hp3 : pMs m3 293 0 (aS A) := pMs_keep (fun i => (hs3.1 293 (by omega) i).1) hp
      obtain ⟨b, k, k1, k2, k3⟩ := n_inn hA hq hk
      refine zok_co (m_has _ (j : Int) (by omega) (by omega)) (fun r hr => ?_)
      rw [show ((j : Int)).toNat = j from rfl, k2.2.2.2 j (by omega)] at hr
      subst hr
      cases hlv : vLv (qS A) (qT A) j with
      | false =>
        have es : spGo A j = .inl 8 := by unfold spGo; rw [if_neg hq, if_pos hlv]
        rw [es]
        exact zok_t rfl (zok_cl (b_refused hA.2.1.1 (hAcc hA hc) hB3 (by decide) (by decide)) (fun x m hx => zok_some hx))
      | true =>
        have es : spGo A j = .inr ((qC A : Nat), stCur (aS A) (qD A - 1) (j : Nat)) := by unfold spGo; rw [if_neg hq, if_neg (by rw [hlv]; decide)]
        rw [es, k_sa hk]
        have e1 : zx (((604 + 413 * (qD A - 1) : Nat) : Int) + 1) = 604 + 413 * (qD A - 1) + 1 := by show (_ : Int).toNat = _; omega
        have e2 : zI m3 293 (604 + 413 * (qD A - 1) + 1) = (qC A : Nat) := by
          have := (hp3.2.2.2.2 _ hl).2.1
          rw [Nat.zero_add] at this
          rw [this, g7]
        refine zok_f (by decide) (zok_gl ⟨by omega, by omega⟩ (zok_gd ⟨by omega, by rw [zl_m.1]; omega⟩ (zok_lt (zok_gl ⟨by omega, by omega⟩ (zok_gd ⟨by omega, by rw [zl_m.1]; omega⟩ (zok_lt ?_))))))
        rw [e1, e2]
        exact zok_cl (b_done hA.2.1.1 (hAcc hA hc) (hUn hA) (hB3.row (zSm.rf.sI (fun q => q rfl))) (pMs_cur hA.2.1.1 hl hp3) _) (fun x m hx => zok_some hx)
  · rw [decide_eq_false (by omega)]
    refine zok_t rfl ?_
    unfold f7_go_18
    rw [thr1 h0 (by decide), zcl_s]
    exact zok_f (by decide) (zok_some (Or.inl ⟨hf, hR1.z 1, zI_eq rfl rfl, (zSm.rf.sI (by omega)).sI (by omega)⟩))
theorem n_previous (hA : wA c A) (hc : c ≤ 1000) (hR : rM A μ) : zok (f7_previous μ) (nAct A μ (spPrev A)) := by
  have hd : qD A ≤ 4 := hA.2.1.1.2.1
  have hd' : tD (aS A) ≤ 4 := hd
  unfold f7_previous
  refine zok_lt (zok_cm (n_start hA hR) (fun m2 h2 => zok_gd zin0 ?_))
  obtain ⟨hB, hp⟩ := h2
  rw [p_dep hp]
  by_cases hq : qD A = 0
  · have es : spPrev A = .inl 1 := by unfold spPrev; rw [if_pos hq]
    rw [es]
    exact zok_t (by show ((qD A : Nat) : Int) = 0; omega) (zok_cl (b_refused hA.2.1.1 (hAcc hA hc) hB (by decide) (by decide)) (fun x m hx => zok_some hx))
  · obtain ⟨g1, g2, g3, g4, g5, g6, g7, g8, g9, g10⟩ := q_facts hA hq
    have hl : qD A - 1 < tD (aS A) := by show qD A - 1 < qD A; omega
    have hpl := plc_in (qO A) (qC A) ((qO_in hA hq).mpr g5)
    have hol := qO_len hA hq
    refine zok_f (by show ¬ ((qD A : Nat) : Int) = 0; omega) (zok_gd zin0 (zok_gl ⟨by omega, by omega⟩ (zok_cm (b_lays hA hB hp hq) (fun m3 h3 => ?_))))
    obtain ⟨hk, hs3⟩ := h3
    obtain ⟨b, k, k1, k2, k3, k4, k5, k6, k7⟩ := n_inn hA hq hk
    refine zok_cm (m_laysLeaving k1 k2 k7 g9) (fun m4 h4 => ?_)
    have hO : mOl (qO A) m4 := h4.1
    have hs4 := hs3.tr h4.2.scr
    have hB4 := hB.scr hs4
    have hp4 : pMs m4 293 0 (aS A) := pMs_keep (fun i => (hs4.1 293 (by omega) i).1) hp
    have e1 : zx (((604 + 413 * (qD A - 1) : Nat) : Int) + 1) = 604 + 413 * (qD A - 1) + 1 := by show (_ : Int).toNat = _; omega
    have e2 : zI m4 293 (604 + 413 * (qD A - 1) + 1) = (qC A : Nat) := by
      have := (hp4.2.2.2.2 _ hl).2.1
      rw [Nat.zero_add] at this
      rw [this, g7]
    rw [k_sa (hk.fo h4.2)]
    refine zok_gl ⟨by omega, by omega⟩ (zok_gd ⟨by omega, by rw [zl_m.1]; omega⟩ ?_)
    rw [e1, e2]
    refine zok_co (m_placeOf hO hol (qC A)) (fun r hr => ?_)
    subst hr
    refine zok_if (fun h => ?_) (fun h => ?_)
    · have es : spPrev A = .inl 7 := by unfold spPrev; rw [if_neg hq, if_pos (by omega)]
      rw [es]
      exact zok_cl (b_refused hA.2.1.1 (hAcc hA hc) hB4 (by decide) (by decide)) (fun x m hx => zok_some hx)
    · have es : spPrev A = .inr (((qO A).getD (plc (qO A) (qC A) - 1).toNat 0 : Nat), stCur (aS A) (qD A - 1) ((qO A).getD (plc (qO A) (qC A) - 1).toNat 0 : Nat)) := by unfold spPrev; rw [if_neg hq, if_neg (by omega)]
      rw [es]
      have e3 : zI m4 336 (zx (plc (qO A) (qC A) - 1)) = (((qO A).getD (plc (qO A) (qC A) - 1).toNat 0 : Nat) : Int) := hO.2 (plc (qO A) (qC A) - 1).toNat (by omega)
      refine zok_gl ⟨by omega, by omega⟩ (zok_gl ⟨by omega, by omega⟩ (zok_gd ⟨by omega, by rw [zl_m2.2.2.2.2.2.1]; omega⟩ (zok_gd ⟨by omega, by rw [zl_m.1]; omega⟩ (zok_lt (zok_gl ⟨by omega, by omega⟩ (zok_gd ⟨by omega, by rw [zl_m2.2.2.2.2.2.1]; omega⟩ ?_))))))
      rw [zI_nk (by decide), e3, e1]
      exact zok_cl (b_done hA.2.1.1 (hAcc hA hc) (hUn hA) (hB4.row (zSm.rf.sI (fun q => q rfl))) (pMs_cur hA.2.1.1 hl hp4) _) (fun x m hx => zok_some hx)
/-- the end of a session -/
theorem b_ends (hL : aN A ≤ 8 ∧ ∀ k, k < aN A → wS (aL A k)) (hB : mB A μ m) (hp : pMs m 293 0 s) (hs : wSt s) (hk : ∀ l, l < tD s → 0 ≤ tS s l ∧ tS s l < aN A) (hq : tD s ≠ 0) (hC10 : tD s - 1 ≠ 0 → hC s (tD s - 1 - 1) < 10 ∧ tC s (tD s - 1 - 1) = (hC s (tD s - 1 - 1) : Nat)) (hTX : hTL (aL A) s (tD s - 1) ≤ 400) :
    zok (f7_ends m) (fun q => q.1 = (rsn (aL A) s (tD s - 1) (hTL (aL A) s (tD s - 1)) : Nat) ∧ mB A μ q.2 ∧ (rsn (aL A) s (tD s - 1) (hTL (aL A) s (tD s - 1)) = 0 → pMs q.2 293 0 (endS (aL A) s)) ∧ zI q.2 293 0 = ((tD s - 1 : Nat) : Int)) := by
  have hd := hs.2.1
  have hdoc := hs.2.2.1
  have hl : tD s - 1 < tD s := by omega
  have hlen := vTx_l (aL A) s (tD s - 1)
  unfold f7_ends
  refine zok_gd zin0 ?_
  rw [p_dep hp]
  refine zok_gl ⟨by omega, by omega⟩ ?_
  rw [show ((tD s : Nat) : Int) - 1 = ((tD s - 1 : Nat) : Int) by omega]
  refine zok_cm (m_lays hB.1.1 hL.1 hL.2 hp hs hl (hk _ hl)) (fun m1 h1 => zok_cm (k_text hs hl hTX h1.1) (fun m2 h2 => zok_gd zin0 (zok_lt ?_)))
  obtain ⟨h3, h4, h5⟩ := h2
  have h4 : zI m2 292 29 = ((hTx (aL A) s (tD s - 1)).length : Int) := h4
  have h5 : ∀ i, i < (hTx (aL A) s (tD s - 1)).length → zI m2 333 i = (hTx (aL A) s (tD s - 1)).getD i 0 := h5
  have hs2 := h1.2.tr h3.scr
  have hB2 := hB.scr hs2
  have hp2 : pMs m2 293 0 s := pMs_keep (fun i => (hs2.1 293 (by omega) i).1) hp
  have hp3 : pMs (zsI m2 293 (zx 0) ((tD s - 1 : Nat) : Int)) 293 0 (stDep s (tD s - 1)) := pMs_dep (by omega) hp2
  have hB3 : mB A μ (zsI m2 293 (zx 0) ((tD s - 1 : Nat) : Int)) := hB2.row (zSm.rf.sI (fun q => q rfl))
  generalize hm3 : zsI m2 293 (zx 0) ((tD s - 1 : Nat) : Int) = m3 at *
  have h4' : zI m3 292 29 = ((hTx (aL A) s (tD s - 1)).length : Int) := by rw [← hm3, zI_nk (by decide)]; exact h4
  have h5' : ∀ i, i < (hTx (aL A) s (tD s - 1)).length → zI m3 333 i = (hTx (aL A) s (tD s - 1)).getD i 0 := fun i hi => by rw [← hm3, zI_nk (by decide)]; exact h5 i hi
  rw [h4']
  have hw3 := wSt_dep hs (show tD s - 1 ≤ tD s by omega)
  unfold rsn endS
  refine zok_if (fun hz => ?_) (fun hz => ?_)
  · have hz' : tD s - 1 = 0 := by omega
    rw [if_pos hz', if_pos hz']
    refine zok_gd ⟨by decide, by rw [zl_m.1]; decide⟩ ?_
    rw [show zx 2 = 2 from rfl, show zI m3 293 2 = _ from hp3.2.2.1, show tDoc (stDep s (tD s - 1)) = tDoc s from rfl]
    refine zok_gl ⟨by omega, by omega⟩ (zok_if (fun h6 => ?_) (fun h6 => ?_))
    · rw [if_neg (by omega)]
      rw [hz'] at hlen h5' h4' hp3 hTX h6
      refine zok_x2 (fun (x : Int) m4 => ∃ j : Nat, x = j ∧ j ≤ (hTx (aL A) s 0).length ∧ zSm (fun c => c ≠ 293) m3 m4 ∧ (∀ i, i < j → zI m4 293 (4 + (tDoc s).length + i) = (hTx (aL A) s 0).getD i 0) ∧ ∀ i, (i < 4 + (tDoc s).length ∨ 4 + (tDoc s).length + j ≤ i) → zI m4 293 i = zI m3 293 i) (fun x _ => 400 - x.toNat) (fun kk x m4 hx ih => ?_) zFu 0 m3 ⟨0, rfl, by omega, zSm.rf, fun i hi => absurd hi (Nat.not_lt_zero i), fun _ _ => rfl⟩ (by show 400 - 0 < 100000; omega)
      obtain ⟨j, rfl, j1, j2, j3, j4⟩ := hx
      have e29 : zI m4 292 29 = ((hTx (aL A) s 0).length : Int) := (j2 292 (by decide) 29).1.trans h4'
      have e2 : zI m4 293 (zx 2) = ((tDoc s).length : Int) := (j4 2 (by omega)).trans hp3.2.2.1
      unfold f7_ends_89
      rw [e29, e2]
      refine zok_if (fun h9 => ?_) (fun h9 => ?_)
      · have hj : j = (hTx (aL A) s 0).length := by omega
        refine zok_gd ⟨by decide, by rw [zl_m.1]; decide⟩ (zok_gl ⟨by omega, by omega⟩ (zok_gd ⟨by decide, by rw [zl_m.1]; decide⟩ (zok_lt (zok_some ⟨rfl, ?_, fun _ => ?_, ?_⟩))))
        · exact (hB3.row j2).row (zSm.rf.sI (fun q => q rfl))
        · obtain ⟨a1, a2, a3, a4, a5⟩ := hp3
          have e0 : ∀ i, i ≠ 2 → (i < 4 + (tDoc s).length) → zI (zsI m4 293 (zx 2) (((tDoc s).length : Int) + ((hTx (aL A) s 0).length : Int))) 293 i = zI m3 293 i := fun i i1 i2 => (zI_ni i1).trans (j4 i (Or.inl i2))
          refine ⟨(e0 0 (by decide) (by omega)).trans a1, (e0 1 (by decide) (by omega)).trans a2, ?_, fun i hi => ?_, fun l hl => absurd hl (Nat.not_lt_zero l)⟩
          · show zI (zsI m4 293 2 _) 293 2 = _
            rw [zI_eq rfl rfl]
            show _ = ((tDoc s ++ hTx (aL A) s 0).length : Int)
            rw [List.length_append]; omega
          · have hi' : i < (tDoc s ++ hTx (aL A) s 0).length := hi
            rw [List.length_append] at hi'
            show _ = (tDoc s ++ hTx (aL A) s 0).getD i 0
            rw [gd_app, Nat.zero_add]
            by_cases q : i < (tDoc s).length
            · rw [if_pos q, e0 _ (by omega) (by omega)]
              have := a4 i q
              rw [Nat.zero_add] at this
              exact this
            · rw [if_neg q]
              have := j3 (i - (tDoc s).length) (by omega)
              rw [show 4 + (tDoc s).length + (i - (tDoc s).length) = 4 + i by omega] at this
              exact (zI_ni (by show 4 + i ≠ 2; omega)).trans this
        · show zI (zsI m4 293 2 _) 293 0 = _
          rw [zI_ni (by decide), j4 0 (by omega)]
          exact hp3.1.trans (by rw [hz']; rfl)
      · refine zok_gd ⟨by decide, by rw [zl_m.1]; decide⟩ (zok_gl ⟨by omega, by omega⟩ (zok_gl ⟨by omega, by omega⟩ (zok_gd ⟨by omega, by rw [zl_m2.2.2.1]; omega⟩ (zok_gd ⟨by omega, by rw [zl_m.1]; omega⟩ (zok_lt (zok_gl ⟨by omega, by omega⟩ ?_))))))
        rw [zx_nat, show zx (4 + ((tDoc s).length : Int) + (j : Int)) = 4 + (tDoc s).length + j from by show (_ : Int).toNat = _; omega, (j2 333 (by decide) j).1, h5' j (by omega)]
        refine ih _ _ ⟨j + 1, by omega, by omega, j2.sI (fun q => q rfl), fun i hi => ?_, fun i hi => (zI_ni (by omega)).trans (j4 i (by omega))⟩ (by show 400 - ((j : Int) + 1).toNat < 400 - (j : Int).toNat; omega)
        by_cases q : i = j
        · rw [zI_eq rfl (by omega), q]
        · rw [zI_ni (by omega)]; exact j3 i (by omega)
    · rw [if_pos (by omega)]
      exact zok_some ⟨rfl, hB3, fun h => by omega, hp3.1⟩
  · have hz' : tD s - 1 ≠ 0 := by omega
    obtain ⟨hf, hcc⟩ := hC10 hz'
    have hl1 : tD s - 1 - 1 < tD (stDep s (tD s - 1)) := by show tD s - 1 - 1 < tD s - 1; omega
    have hx40 := ((hs.2.2.2 (tD s - 1 - 1) (by omega)).2.2.2.2 _ hf).1
    rw [if_neg hz', if_neg hz']
    refine zok_gl ⟨by omega, by omega⟩ ?_
    rw [show ((tD s - 1 : Nat) : Int) - 1 = ((tD s - 1 - 1 : Nat) : Int) by omega]
    refine zok_cl (b_types (r := 333) (x := hTx (aL A) s (tD s - 1)) hw3 hl1 hf hcc hp3 (by omega) (by decide) (by rw [zl_m2.2.2.1]; omega) h5') (fun x m4 h6 => ?_)
    obtain ⟨k1, k2⟩ := h6
    have eX : tX (stDep s (tD s - 1)) (tD s - 1 - 1) (hC s (tD s - 1 - 1)) = tX s (tD s - 1 - 1) (hC s (tD s - 1 - 1)) := rfl
    rw [eX, hlen] at k1 k2
    by_cases h40 : (tX s (tD s - 1 - 1) (hC s (tD s - 1 - 1))).length + hTL (aL A) s (tD s - 1) > 40
    · have := k1 h40
      have ex : x = false := congrArg Prod.fst this
      have em : m4 = m3 := congrArg Prod.snd this
      subst ex
      subst em
      rw [if_pos h40]
      exact zok_t rfl (zok_some ⟨rfl, hB3, fun h => by omega, hp3.1⟩)
    · obtain ⟨q1, q2, q3⟩ := k2 (by omega)
      have ex : x = true := q1
      subst ex
      rw [if_neg h40]
      refine zok_f (by decide) (zok_gl ⟨by omega, by omega⟩ ?_)
      have hB4 := hB3.row q2
      have hw4 : wSt (stType (stDep s (tD s - 1)) (tD s - 1 - 1) (hC s (tD s - 1 - 1)) (tX s (tD s - 1 - 1) (hC s (tD s - 1 - 1)) ++ hTx (aL A) s (tD s - 1))) := wSt_ty hw3 hf (by rw [List.length_append]; omega)
      refine zok_cl (b_tooLong hB4.1 hL q3 hw4 hl1 (hk _ (by omega))) (fun y m5 h7 => ?_)
      have hTeq : hTL (aL A) (stType (stDep s (tD s - 1)) (tD s - 1 - 1) (hC s (tD s - 1 - 1)) (tX s (tD s - 1 - 1) (hC s (tD s - 1 - 1)) ++ hTx (aL A) s (tD s - 1))) (tD s - 1 - 1) = vTL (hS (aL A) s (tD s - 1 - 1)) (onT (hT s (tD s - 1 - 1)) (hC s (tD s - 1 - 1))) (updN (hN s (tD s - 1 - 1)) (hC s (tD s - 1 - 1)) ((tX s (tD s - 1 - 1) (hC s (tD s - 1 - 1))).length + hTL (aL A) s (tD s - 1))) := by
        rw [tp_h (aL A) (stDep s (tD s - 1)) (tD s - 1 - 1) hf, List.length_append, hlen]; rfl
      have ey : y = decide (vTL (hS (aL A) s (tD s - 1 - 1)) (onT (hT s (tD s - 1 - 1)) (hC s (tD s - 1 - 1))) (updN (hN s (tD s - 1 - 1)) (hC s (tD s - 1 - 1)) ((tX s (tD s - 1 - 1) (hC s (tD s - 1 - 1))).length + hTL (aL A) s (tD s - 1))) > 400) := by rw [← hTeq]; exact h7.1
      have hB5 := hB4.scr h7.2.1
      have hp5 := pMs_keep (fun i => (h7.2.1.1 293 (by omega) i).1) q3
      have e05 : zI m5 293 0 = ((tD s - 1 : Nat) : Int) := hp5.1
      subst ey
      by_cases h8 : vTL (hS (aL A) s (tD s - 1 - 1)) (onT (hT s (tD s - 1 - 1)) (hC s (tD s - 1 - 1))) (updN (hN s (tD s - 1 - 1)) (hC s (tD s - 1 - 1)) ((tX s (tD s - 1 - 1) (hC s (tD s - 1 - 1))).length + hTL (aL A) s (tD s - 1))) > 400
      · rw [decide_eq_true h8, if_pos h8]
        exact zok_f (by decide) (zok_some ⟨rfl, hB5, fun h => by omega, e05⟩)
      · rw [decide_eq_false h8, if_neg h8]
        exact zok_t rfl (zok_some ⟨rfl, hB5, fun _ => hp5, e05⟩)
end mAct2
