/-! THE CLASS'S ACTS -/
def cAct (A : zA) (μ : zM) (o : Nat ⊕ (Int × zSt)) : Int × zM → Prop := fun r => r.1 = (actA A o).1 ∧ rC (actA A o).2 r.2 ∧ zSm (fun c => 292 ≤ c) μ r.2
section cActs
variable {A : zA} {c : Int} {μ m : zM}
theorem rC.st {s : zSt} (hn : aN A ≤ 8) (h : zSm (fun c => c < 193 ∨ (208 < c ∧ c < 292)) μ m) (hr : rC A μ) (hs : pSt m 193 s) : rC (setS A s) m := by
  obtain ⟨⟨t, t1, t2, t3, t4, t5⟩, h2, h3, h4, h5, ⟨n, n1, n2, n3, n4⟩, h7⟩ := hr
  have e : ∀ c, (c < 193 ∨ (208 < c ∧ c < 292)) → ∀ i, zI m c i = zI μ c i := fun c hc i => (h c hc i).1
  have e1 : ∀ c, (c < 193 ∨ (208 < c ∧ c < 292)) → ∀ i, zR m c i = zR μ c i := fun c hc i => (h c hc i).2.2
  refine ⟨⟨t, t1, (e1 1 (by omega) 2).trans t2, (e1 99 (by omega) 3).trans t3, (e t (by omega) 1).trans t4, fun k hk => pSc_v (okT_k t1 (by have hk' : k < aN A := hk; omega)) h (fun c hc => by omega) (t5 k hk)⟩, hs, ⟨(e 1 (by omega) 1).trans h3.1, fun i hi => (e 2 (by omega) i).trans (h3.2 i hi)⟩, ⟨(e 1 (by omega) 4).trans h4.1, (e 1 (by omega) 5).trans h4.2⟩, fun i hi => (e 3 (by omega) i).trans (h5 i hi), ⟨n, n1, (e 1 (by omega) 9).trans n2, (e 1 (by omega) 10).trans n3, fun j s hj => pSt_keep (fun k k1 k2 => e k (by omega)) (n4 j s hj)⟩, fun j hj => ?_⟩
  rcases h7 j hj with ⟨g1, g2⟩ | ⟨g1, s, g2, g3⟩
  · exact Or.inl ⟨(e 6 (by omega) j).trans g1, g2⟩
  · exact Or.inr ⟨(e 6 (by omega) j).trans g1, s, g2, pSt_keep (fun k k1 k2 => e k (by omega)) g3⟩
theorem rC.acc {f : Nat → Int} (hn : aN A ≤ 8) (h : zSm (fun c => c ≠ 3) μ m) (hr : rC A μ) (hs : ∀ i, i < 10 → zI m 3 i = f i) : rC (aN A, aL A, aS A, aU A, aV A, aB A, aE A, f) m := by
  obtain ⟨⟨t, t1, t2, t3, t4, t5⟩, h2, h3, h4, h5, ⟨n, n1, n2, n3, n4⟩, h7⟩ := hr
  have e : ∀ c, c ≠ 3 → ∀ i, zI m c i = zI μ c i := fun c hc i => (h c hc i).1
  have e1 : ∀ c, c ≠ 3 → ∀ i, zR m c i = zR μ c i := fun c hc i => (h c hc i).2.2
  refine ⟨⟨t, t1, (e1 1 (by omega) 2).trans t2, (e1 99 (by omega) 3).trans t3, (e t (by omega) 1).trans t4, fun k hk => ?_⟩, pSt_keep (fun k k1 k2 => e k (by omega)) h2, ⟨(e 1 (by omega) 1).trans h3.1, fun i hi => (e 2 (by omega) i).trans (h3.2 i hi)⟩, ⟨(e 1 (by omega) 4).trans h4.1, (e 1 (by omega) 5).trans h4.2⟩, hs, ⟨n, n1, (e 1 (by omega) 9).trans n2, (e 1 (by omega) 10).trans n3, fun j s hj => pSt_keep (fun k k1 k2 => e k (by omega)) (n4 j s hj)⟩, fun j hj => ?_⟩
  · have hk' : k < aN A := hk
    have hz := (okT_k t1 (show k < 8 by omega)).f
    exact pSc_keep (fun c c1 c2 i => e c (by omega) i) (fun i => ⟨e _ (by omega) i, e _ (by omega) i⟩) (t5 k hk)
  · rcases h7 j hj with ⟨g1, g2⟩ | ⟨g1, s, g2, g3⟩
    · exact Or.inl ⟨(e 6 (by omega) j).trans g1, g2⟩
    · exact Or.inr ⟨(e 6 (by omega) j).trans g1, s, g2, pSt_keep (fun k k1 k2 => e k (by omega)) g3⟩
theorem c_refuse (hA : wA c A) (hc : c ≤ 1000) (hR : rC A μ) (hv : vOnly μ m) {r : Nat} (h1 : 1 ≤ r) (h2 : r ≤ 9) : zok (f5_refuse (r : Int) m) (cAct A μ (.inl r)) := by
  have hR1 := hR.only hA.1.1 hv
  have ha := hA.2.2.2.2.2 r (by omega)
  unfold f5_refuse
  rw [zx_nat, hR1.2.2.2.2.1 r (by omega)]
  refine zok_gd ⟨by omega, by rw [zln_c.2.1]; omega⟩ (zok_gl ⟨by omega, by omega⟩ (zok_gd ⟨by omega, by rw [zln_c.2.1]; omega⟩ (zok_lt (zok_gl ⟨by omega, by omega⟩ (zok_some ⟨rfl, ?_, ?_⟩)))))
  · refine rC.acc hA.1.1 (zSm.rf.sI (fun q => q rfl)) hR1 (fun i hi => ?_)
    show zI (zsI m 3 r (aC A r + 1)) 3 i = if i = r then aC A r + 1 else aC A i
    by_cases e : i = r
    · rw [if_pos e, zI_eq rfl e]
    · rw [if_neg e, zI_ni e]; exact hR1.2.2.2.2.1 i hi
  · exact hv.hi.tr (zSm.rf.sI (by omega))
theorem c_keep (hA : wA c A) (hc : c ≤ 1000) (hR : rC A μ) : zok (f5_keepForUndo μ) (fun m => rC (aDone A (aS A)) m ∧ zSm (fun c => c ≠ 1 ∧ c ≠ 3 ∧ (c < 222 ∨ 277 < c)) μ m) := by
  have ha := hA.2.2.2.2.2 0 (by omega)
  have hu := hA.2.2.1.1
  have hR' := hR
  obtain ⟨⟨t, t1, t2, t3, t4, t5⟩, h2, h3, h4, h5, ⟨n, n1, n2, n3, n4⟩, h7⟩ := hR
  unfold f5_keepForUndo
  rw [show zx 0 = 0 from rfl, h5 0 (by omega)]
  refine zok_gd ⟨by omega, by rw [zln_c.2.1]; omega⟩ (zok_gl ⟨by omega, by omega⟩ (zok_gd ⟨by omega, by rw [zln_c.2.1]; omega⟩ (zok_lt ?_)))
  rw [zI_nk (by decide), n2, zx_nat]
  have hS1 : pSt (zsI μ 3 0 (aC A 0 + 1)) 193 (aS A) := pSt_keep (fun k k1 k2 i => zI_nk (by omega)) h2
  refine zok_gd ⟨by omega, by rw [zln_c.2.2.1]; omega⟩ (zok_cm (s_copy (okC_all.2.1 n n1) okC_all.1 (by omega) hS1 hA.2.1.1) (fun m2 hm2 => ?_))
  obtain ⟨g1, g2⟩ := hm2
  have g3 : ∀ c, (c < 222 + 7 * n ∨ 222 + 7 * n + 6 < c) → ∀ i, zI m2 c i = zI (zsI μ 3 0 (aC A 0 + 1)) c i := fun c hc i => (g2 c hc i).1
  rw [g3 1 (by omega), zI_nk (by decide), n2]
  refine zok_gl ⟨by omega, by omega⟩ (zok_lt (zok_lt ?_))
  rw [zrem_nn (by omega) (by omega) (by decide) (by decide), zI_ni (by decide), g3 1 (by omega), zI_nk (by decide), n3]
  refine zok_gl ⟨by omega, by omega⟩ (zok_lt (zok_lt (zok_some ?_)))
  generalize hm4 : zsI (zsI m2 1 9 (((n : Int) + 1) % 8)) 1 10 (min (((aU A).length : Nat) + 1 : Int) 8) = m4
  have e : ∀ c, c ≠ 1 → c ≠ 3 → (c < 222 + 7 * n ∨ 222 + 7 * n + 6 < c) → ∀ i, zI m4 c i = zI μ c i := fun c c1 c3 c2 i => by
    rw [← hm4, zI_nk c1, zI_nk c1, g3 c c2, zI_nk c3]
  have e1 : ∀ i, i ≠ 9 → i ≠ 10 → zI m4 1 i = zI μ 1 i := fun i i1 i2 => by
    rw [← hm4, zI_ni i2, zI_ni i1, g3 1 (by omega), zI_nk (by decide)]
  have eR : ∀ c, (c < 222 + 7 * n ∨ 222 + 7 * n + 6 < c) → ∀ i, zR m4 c i = zR μ c i := fun c c2 i => by
    rw [← hm4]; exact (g2 c c2 i).2.2
  have hsm : zSm (fun c => c ≠ 1 ∧ c ≠ 3 ∧ (c < 222 ∨ 277 < c)) μ m4 := by
    rw [← hm4]
    exact (((zSm.rf.sI (fun q => q.2.1 rfl)).tr (g2.mono (fun c hc => by omega))).sI (fun q => q.1 rfl)).sI (fun q => q.1 rfl)
  refine ⟨⟨⟨t, t1, (eR 1 (by omega) 2).trans t2, (eR 99 (by omega) 3).trans t3, (e t (by omega) (by omega) (by omega) 1).trans t4, fun k hk => ?_⟩, pSt_keep (fun k k1 k2 => e k (by omega) (by omega) (by omega)) h2, ⟨(e1 1 (by decide) (by decide)).trans h3.1, fun i hi => (e 2 (by decide) (by decide) (by omega) i).trans (h3.2 i hi)⟩, ⟨(e1 4 (by decide) (by decide)).trans h4.1, (e1 5 (by decide) (by decide)).trans h4.2⟩, fun i hi => ?_, ⟨(n + 1) % 8, by omega, ?_, ?_, fun j s hj => ?_⟩, fun j hj => ?_⟩, hsm⟩
  · have hk' : k < aN A := hk
    have hz := (okT_k t1 (show k < 8 by have := hA.1.1; omega)).f
    exact pSc_keep (fun c c1 c2 i => e c (by omega) (by omega) (by omega) i) (fun i => ⟨e _ (by omega) (by omega) (by omega) i, e _ (by omega) (by omega) (by omega) i⟩) (t5 k hk)
  · show zI m4 3 i = if i = 0 then aC A 0 + 1 else aC A i
    rw [← hm4, zI_nk (by decide), zI_nk (by decide), g3 3 (by omega)]
    by_cases q : i = 0
    · rw [if_pos q, zI_eq rfl q]
    · rw [if_neg q, zI_ni q]; exact h5 i hi
  · rw [← hm4, zI_ni (by decide), zI_eq rfl rfl]; omega
  · rw [← hm4, zI_eq rfl rfl]
    show _ = (((aS A :: aU A).take 8).length : Int)
    rw [List.length_take, List.length_cons]; omega
  · have hj' : ((aS A :: aU A).take 8)[j]? = some s := hj
    rw [List.getElem?_take] at hj'
    by_cases hj8 : j < 8
    · rw [if_pos hj8] at hj'
      cases j with
      | zero =>
        have es : aS A = s := by simpa using hj'
        rw [show ((n + 1) % 8 + 7 - 0) % 8 = n by omega, ← es]
        exact pSt_keep (fun k k1 k2 i => by rw [← hm4, zI_nk (by omega), zI_nk (by omega)]) g1
      | succ j =>
        have es : (aU A)[j]? = some s := by simpa using hj'
        have hp := n4 j s es
        rw [show ((n + 1) % 8 + 7 - (j + 1)) % 8 = (n + 7 - j) % 8 by omega]
        exact pSt_keep (fun k k1 k2 => e k (by omega) (by omega) (by omega)) hp
    · rw [if_neg hj8] at hj'; cases hj'
  · rcases h7 j hj with ⟨q1, q2⟩ | ⟨q1, s, q2, q3⟩
    · exact Or.inl ⟨(e 6 (by decide) (by decide) (by omega) j).trans q1, q2⟩
    · exact Or.inr ⟨(e 6 (by decide) (by decide) (by omega) j).trans q1, s, q2, pSt_keep (fun k k1 k2 => e k (by omega) (by omega) (by omega)) q3⟩
/-- behind keepForUndo, the sessions written anew -/
theorem cAct.done {s : zSt} {v : Int} {m2 m3 : zM} (hn : aN A ≤ 8) (hv : vOnly μ m) (h2 : rC (aDone A (aS A)) m2) (h3 : zSm (fun c => c ≠ 1 ∧ c ≠ 3 ∧ (c < 222 ∨ 277 < c)) m m2) (h4 : zSm (fun c => c < 193 ∨ 208 < c) m2 m3) (h5 : pSt m3 193 s) : cAct A μ (.inr (v, s)) (v, m3) :=
  ⟨rfl, rC.st (A := aDone A (aS A)) hn (h4.mono (fun c hc => by omega)) h2 h5, hv.hi.tr ((h3.mono (fun c hc => by omega)).tr (h4.mono (fun c hc => by omega)))⟩
theorem c_dep (hR : rC A μ) : zI μ 193 1 = (qD A : Nat) := hR.2.1.2.1
theorem c_drop (hA : wA c A) (hc : c ≤ 1000) (hR : rC A μ) : zok (f5_drop μ) (cAct A μ (spDrop A)) := by
  have hd : qD A ≤ 4 := hA.2.1.1.2.1
  unfold f5_drop spDrop
  rw [c_dep hR]
  by_cases hq : qD A = 0
  · rw [if_pos hq]
    exact zok_t (by omega) (zok_cl (c_refuse hA hc hR zSm.rf (by decide) (by decide)) (fun x m hx => zok_some hx))
  · rw [if_neg hq]
    refine zok_f (by omega) (zok_cm (c_keep hA hc hR) (fun m2 h2 => ?_))
    rw [show zI m2 193 1 = (qD A : Nat) from h2.1.2.1.2.1]
    refine zok_gl ⟨by omega, by omega⟩ (zok_lt (zok_some ?_))
    rw [zI_eq rfl rfl, show ((qD A : Nat) : Int) - 1 = ((qD A - 1 : Nat) : Int) by omega]
    refine cAct.done hA.1.1 zSm.rf h2.1 h2.2 (zSm.rf.sI (by omega)) ?_
    obtain ⟨a1, a2, a3, a4, a5, a6⟩ := h2.1.2.1
    have hlt : ∀ l, l < tD (stDep (aS A) (qD A - 1)) → l < tD (aS A) := fun l hl => by have hl' : l < qD A - 1 := hl; show l < qD A; omega
    exact ⟨(zI_ni (by decide)).trans a1, zI_eq rfl rfl, (zI_ni (by decide)).trans a3, fun l hl => by rw [zI_nk (by decide), zI_nk (by decide), zI_nk (by decide)]; exact a4 l (hlt l hl), fun l hl f hf => by
      rw [zI_nk (by decide)]
      exact ⟨(a5 l (hlt l hl) f hf).1, fun i hi => by rw [zI_nk (by decide)]; exact (a5 l (hlt l hl) f hf).2 i hi⟩, fun i hi => by rw [zI_nk (by decide)]; exact a6 i hi⟩
theorem c_setOrder (hA : wA c A) (hc : c ≤ 1000) (hR : rC A μ) {o : Int} (ho : o = 0 ∨ o = 1) : zok (f5_setOrder o μ) (cAct A μ (spOrder A o)) := by
  have h1 := hR.2.1.1
  have hw := hA.2.1.1.1
  have key : ∀ v : Int, v = tO (aS A) → zok (f5_setOrder_15 o v μ) (cAct A μ (spOrder A o)) := by
    intro v hv
    unfold f5_setOrder_15
    refine zok_cm (c_keep hA hc hR) (fun m2 h2 => zok_gd ho (zok_lt (zok_some ?_)))
    rw [hv]
    refine cAct.done hA.1.1 zSm.rf h2.1 h2.2 (zSm.rf.sI (by omega)) ?_
    obtain ⟨a1, a2, a3, a4, a5, a6⟩ := h2.1.2.1
    exact ⟨zI_eq rfl rfl, (zI_ni (by decide)).trans a2, (zI_ni (by decide)).trans a3, fun l hl => by rw [zI_nk (by decide), zI_nk (by decide), zI_nk (by decide)]; exact a4 l hl, fun l hl f hf => by
      rw [zI_nk (by decide)]
      exact ⟨(a5 l hl f hf).1, fun i hi => by rw [zI_nk (by decide)]; exact (a5 l hl f hf).2 i hi⟩, fun i hi => by rw [zI_nk (by decide)]; exact a6 i hi⟩
  unfold f5_setOrder
  rw [h1]
  exact zok_if (fun h => key 0 h.symm) (fun h => key 1 (hw.resolve_left h).symm)
theorem pSt_cur {s : zSt} {l : Nat} {v : Int} (hl : l < tD s) (h : pSt μ 193 s) : pSt (zsI μ 195 l v) 193 (stCur s l v) := by
  obtain ⟨a1, a2, a3, a4, a5, a6⟩ := h
  refine ⟨(zI_nk (by decide)).trans a1, (zI_nk (by decide)).trans a2, (zI_nk (by decide)).trans a3, fun l' hl' => ?_, fun l' hl' f hf => ?_, fun i hi => by rw [zI_nk (by decide)]; exact a6 i hi⟩
  · obtain ⟨b1, b2, b3⟩ := a4 l' hl'
    rw [zI_nk (by decide), zI_nk (show 193 + 3 ≠ 195 by decide)]
    refine ⟨b1, ?_, b3⟩
    show zI (zsI μ 195 l v) 195 l' = if l' = l then v else tC s l'
    by_cases e : l' = l
    · rw [if_pos e, zI_eq rfl e]
    · rw [if_neg e, zI_ni e]; exact b2
  · rw [zI_nk (by decide)]
    exact ⟨(a5 l' hl' f hf).1, fun i hi => by rw [zI_nk (by decide)]; exact (a5 l' hl' f hf).2 i hi⟩
theorem c_go (hA : wA c A) (hc : c ≤ 1000) (hR : rC A μ) (f : Int) : zok (f5_go f μ) (fun r => (¬ (0 ≤ f ∧ f < 10) ∧ r = (.inl xIO, μ)) ∨ (0 ≤ f ∧ f < 10 ∧ ∃ x, r.1 = .inr x ∧ cAct A μ (spGo A f.toNat) (x, r.2))) := by
  unfold f5_go
  by_cases hf : 0 ≤ f ∧ f < 10
  · rw [c_fld1 hf, zcx_r, c_dep hR]
    obtain ⟨j, rfl⟩ : ∃ j : Nat, f = j := ⟨f.toNat, by omega⟩
    have hj : j < 10 := by omega
    rw [show ((j : Int)).toNat = j from rfl]
    by_cases hq : qD A = 0
    · have es : spGo A j = .inl 1 := by unfold spGo; rw [if_pos hq]
      rw [es]
      exact zok_t (by omega) (zok_cl (c_refuse hA hc hR zSm.rf (by decide) (by decide)) (fun x m hx => zok_some (Or.inr ⟨hf.1, hf.2, x, rfl, hx⟩)))
    · obtain ⟨g1, g2, g3, g4, g5, g6, g7, g8, g9, g10⟩ := q_facts hA hq
      have hl : qD A - 1 < tD (aS A) := by show qD A - 1 < qD A; omega
      refine zok_f (by omega) (zok_gl ⟨by omega, by omega⟩ ?_)
      rw [show ((qD A : Nat) : Int) - 1 = ((qD A - 1 : Nat) : Int) by omega]
      refine zok_cm (c_look hA.B hR hl) (fun m1 h1 => ?_)
      obtain ⟨hv, ⟨t, t1, t2, t3, t4, t5, t6, t7, t8⟩, t9⟩ := h1
      have hR1 := hR.only hA.1.1 hv
      refine zok_co (v_isLive t4.1 hj) (fun b hb => ?_)
      have hb' : b = vLv (qS A) (qT A) j := hb
      subst hb'
      cases hlv : vLv (qS A) (qT A) j with
      | false =>
        have es : spGo A j = .inl 8 := by unfold spGo; rw [if_neg hq, if_pos hlv]
        rw [es]
        exact zok_t rfl (zok_cl (c_refuse hA hc hR hv (by decide) (by decide)) (fun x m hx => zok_some (Or.inr ⟨hf.1, hf.2, x, rfl, hx⟩)))
      | true =>
        have es : spGo A j = .inr ((qC A : Nat), stCur (aS A) (qD A - 1) (j : Nat)) := by unfold spGo; rw [if_neg hq, if_neg (by rw [hlv]; decide)]
        rw [es, zx_nat, show zI m1 195 (qD A - 1) = _ from (hR1.2.1.2.2.2.1 _ hl).2.1, g7]
        refine zok_f (by decide) (zok_gd ⟨by omega, by rw [zln_c.2.2.2.2.2.2.1]; omega⟩ (zok_lt (zok_cm (c_keep hA hc hR1) (fun m2 h2 => zok_gd ⟨by omega, by rw [zln_c.2.2.2.2.2.2.1]; omega⟩ (zok_lt (zok_some (Or.inr ⟨hf.1, hf.2, _, rfl, ?_⟩)))))))
        exact cAct.done hA.1.1 hv h2.1 h2.2 (zSm.rf.sI (by omega)) (pSt_cur hl h2.1.2.1)
  · rw [c_fld0 hf, zcx_l]
    exact zok_some (Or.inl ⟨hf, rfl⟩)
theorem c_previous (hA : wA c A) (hc : c ≤ 1000) (hR : rC A μ) : zok (f5_previous μ) (cAct A μ (spPrev A)) := by
  unfold f5_previous spPrev
  rw [c_dep hR]
  by_cases hq : qD A = 0
  · rw [if_pos hq]
    exact zok_t (by omega) (zok_cl (c_refuse hA hc hR zSm.rf (by decide) (by decide)) (fun x m hx => zok_some hx))
  · obtain ⟨g1, g2, g3, g4, g5, g6, g7, g8, g9, g10⟩ := q_facts hA hq
    have hl : qD A - 1 < tD (aS A) := by show qD A - 1 < qD A; omega
    have hp := plc_in (qO A) (qC A) ((qO_in hA hq).mpr g5)
    have hol := qO_len hA hq
    rw [if_neg hq]
    refine zok_f (by omega) (zok_gl ⟨by omega, by omega⟩ ?_)
    rw [show ((qD A : Nat) : Int) - 1 = ((qD A - 1 : Nat) : Int) by omega]
    refine zok_cm (c_look hA.B hR hl) (fun m1 h1 => ?_)
    obtain ⟨hv, -, t9⟩ := h1
    have t9 : vOl (qO A) m1 := t9
    have hR1 := hR.only hA.1.1 hv
    rw [zx_nat, show zI m1 195 (qD A - 1) = _ from (hR1.2.1.2.2.2.1 _ hl).2.1, g7]
    refine zok_gd ⟨by omega, by rw [zln_c.2.2.2.2.2.2.1]; omega⟩ (zok_co (v_place t9 hol (qC A)) (fun r hr => ?_))
    have hr' : r = plc (qO A) (qC A) := hr
    subst hr'
    refine zok_gl ⟨by omega, by omega⟩ (zok_if (fun h => ?_) (fun h => ?_))
    · rw [if_neg (by omega)]
      refine zok_cm (c_keep hA hc hR1) (fun m2 h2 => ?_)
      have h206 : zI m2 206 (plc (qO A) (qC A) - 1).toNat = (((qO A).getD (plc (qO A) (qC A) - 1).toNat 0 : Nat) : Int) := ((h2.2 206 (by omega) _).1).trans (t9.2 _ (by omega))
      rw [show zx (plc (qO A) (qC A) - 1) = (plc (qO A) (qC A) - 1).toNat from rfl, h206]
      refine zok_gd ⟨by omega, by rw [zl_200s.2.2.2.2.2.1]; omega⟩ (zok_gd ⟨by omega, by rw [zln_c.2.2.2.2.2.2.1]; omega⟩ (zok_lt (zok_gd ⟨by omega, by rw [zln_c.2.2.2.2.2.2.1]; omega⟩ (zok_some ?_))))
      rw [zI_eq rfl rfl]
      exact cAct.done hA.1.1 hv h2.1 h2.2 (zSm.rf.sI (by omega)) (pSt_cur hl h2.1.2.1)
    · rw [if_pos (by omega)]
      exact zok_cl (c_refuse hA hc hR hv (by decide) (by decide)) (fun x m hx => zok_some hx)
end cActs
