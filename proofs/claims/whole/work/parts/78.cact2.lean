/-! THE CLASS'S ACTS that ask for a TEXT -/
theorem vTx_l (L : Nat → zSn) (s : zSt) (l : Nat) : (hTx L s l).length = hTL L s l := vTx_len _ _ _
/-- what would stand against the end of the session l: 0, or the reason -/
def rsn (L : Nat → zSn) (s : zSt) (l n : Nat) : Nat :=
  if l = 0 then (if (tDoc s).length + n > 600 then 9 else 0)
  else if (tX s (l - 1) (hC s (l - 1))).length + n > 40 then 4
  else if vTL (hS L s (l - 1)) (onT (hT s (l - 1)) (hC s (l - 1))) (updN (hN s (l - 1)) (hC s (l - 1)) ((tX s (l - 1) (hC s (l - 1))).length + n)) > 400 then 3 else 0
def endS (L : Nat → zSn) (s : zSt) : zSt := if tD s - 1 = 0 then stDep (stDoc s (hTx L s 0)) 0 else stDep (stTp s (tD s - 1 - 1) (hTx L s (tD s - 1))) (tD s - 1)
theorem tp_h (L : Nat → zSn) (s : zSt) (l : Nat) {f : Nat} (hf : f < 10) (x : List Int) : hTL L (stType s l f x) l = vTL (hS L s l) (onT (hT s l) f) (updN (hN s l) f x.length) := by
  have e1 : hT (stType s l f x) l = onT (hT s l) f := by
    funext g
    show mbit (if l = l then zor (tY s l) (zshl 1 (f : Nat)) else tY s l) g = _
    rw [if_pos rfl, mb_on hf]; rfl
  have e2 : hN (stType s l f x) l = updN (hN s l) f x.length := by
    funext g
    show (if l = l ∧ g = f then x else tX s l g).length = if g = f then x.length else (tX s l g).length
    by_cases q : g = f
    · rw [if_pos ⟨rfl, q⟩, if_pos q]
    · rw [if_neg (fun h => q h.2), if_neg q]
  unfold hTL
  rw [e1, e2]; rfl
theorem spEnd_rsn (L : Nat → zSn) (s : zSt) (hf : tD s - 1 ≠ 0 → hC s (tD s - 1 - 1) < 10) : spEnd L s = if rsn L s (tD s - 1) (hTL L s (tD s - 1)) = 0 then .inr (endS L s) else .inl (rsn L s (tD s - 1) (hTL L s (tD s - 1))) := by
  have e := vTx_l L s (tD s - 1)
  unfold spEnd rsn endS
  by_cases h0 : tD s - 1 = 0
  · rw [if_pos h0, if_pos h0, if_pos h0]
    rw [h0] at e ⊢
    rw [e]
    by_cases h1 : (tDoc s).length + hTL L s 0 > 600
    · rw [if_pos h1, if_pos h1, if_neg (by decide)]
    · rw [if_neg h1, if_neg h1, if_pos rfl]
  · rw [if_neg h0, if_neg h0, if_neg h0, e]
    by_cases h1 : (tX s (tD s - 1 - 1) (hC s (tD s - 1 - 1))).length + hTL L s (tD s - 1) > 40
    · rw [if_pos h1, if_pos h1, if_neg (by decide)]
    · rw [if_neg h1, if_neg h1]
      have e2 : hTL L (stTp s (tD s - 1 - 1) (hTx L s (tD s - 1))) (tD s - 1 - 1) = vTL (hS L s (tD s - 1 - 1)) (onT (hT s (tD s - 1 - 1)) (hC s (tD s - 1 - 1))) (updN (hN s (tD s - 1 - 1)) (hC s (tD s - 1 - 1)) ((tX s (tD s - 1 - 1) (hC s (tD s - 1 - 1))).length + hTL L s (tD s - 1))) := by
        unfold stTp
        rw [tp_h L s _ (hf h0), List.length_append, e]
      rw [e2]
      by_cases h2 : vTL (hS L s (tD s - 1 - 1)) (onT (hT s (tD s - 1 - 1)) (hC s (tD s - 1 - 1))) (updN (hN s (tD s - 1 - 1)) (hC s (tD s - 1 - 1)) ((tX s (tD s - 1 - 1) (hC s (tD s - 1 - 1))).length + hTL L s (tD s - 1))) > 400
      · rw [if_pos h2, if_pos h2, if_neg (by decide)]
      · rw [if_neg h2, if_neg h2, if_pos rfl]
theorem rsn_le (L : Nat → zSn) (s : zSt) (l n : Nat) : rsn L s l n = 0 ∨ (1 ≤ rsn L s l n ∧ rsn L s l n ≤ 9) := by
  unfold rsn
  split
  · split <;> omega
  · split
    · omega
    · split <;> omega
section cActs2
variable {A : zA} {c : Int} {μ m : zM}
theorem lv_C (hA : wA c A) {l : Nat} (hl : l < tD (aS A)) : hC (aS A) l < 10 ∧ tC (aS A) l = (hC (aS A) l : Nat) := by
  have h := hA.2.1.2 l hl
  have := vLv_lt (hA.S hl) h.2.2.1.1
  unfold hC
  omega
/-- why a session can't end -/
theorem c_rnte (hB : wB A) (hR : rC A μ) {l n : Nat} (hl : l ≤ tD (aS A)) (hC10 : l ≠ 0 → hC (aS A) (l - 1) < 10 ∧ tC (aS A) (l - 1) = (hC (aS A) (l - 1) : Nat)) (hn : n ≤ 400) : zok (f5_reasonNotToEnd (l : Int) (n : Int) μ) (fun r => r.1 = (rsn (aL A) (aS A) l n : Nat) ∧ vOnly μ r.2 ∧ (vAny μ → vAny r.2)) := by
  have hd := hB.2.1.2.1
  have hdoc := hB.2.1.2.2.1
  unfold f5_reasonNotToEnd rsn
  by_cases h0 : l = 0
  · rw [if_pos h0, hR.2.1.2.2.1]
    refine zok_t (by omega) (zok_gL ⟨by omega, by omega⟩ (zok_lt (zok_if (fun h => zok_some ?_) (fun h => zok_some ?_))))
    · have := zcmp_le.mp h
      rw [if_neg (by omega)]; exact ⟨rfl, zSm.rf, fun h => h⟩
    · have : ¬ (((tDoc (aS A)).length : Int) + (n : Int)) ≤ 600 := fun q => h (zcmp_le.mpr q)
      rw [if_pos (by omega)]; exact ⟨rfl, zSm.rf, fun h => h⟩
  · obtain ⟨hf, hc⟩ := hC10 h0
    have hl1 : l - 1 < tD (aS A) := by omega
    have h40 := ((hB.2.1.2.2.2 (l - 1) hl1).2.2.2.2 _ hf).1
    refine zok_f (by omega) (zok_gl ⟨by omega, by omega⟩ ?_)
    rw [if_neg h0, show (l : Int) - 1 = ((l - 1 : Nat) : Int) by omega, zx_nat, show zI μ 195 (l - 1) = _ from (hR.2.1.2.2.2.1 _ hl1).2.1, hc]
    refine zok_gd ⟨by omega, by rw [zln_c.2.2.2.2.2.2.1]; omega⟩ (zok_lt (zok_co (s_typedLength okC_all.1 hR.2.1 hB.2.1 hl1 hf) (fun r hr => ?_)))
    subst hr
    refine zok_gL ⟨by omega, by omega⟩ (zok_lt (zok_if (fun h => ?_) (fun h => zok_some ?_)))
    · have h1 := zcmp_le.mp h
      rw [if_neg (by omega)]
      refine zok_gl ⟨by omega, by omega⟩ ?_
      rw [show ((tX (aS A) (l - 1) (hC (aS A) (l - 1))).length : Int) + (n : Int) = (((tX (aS A) (l - 1) (hC (aS A) (l - 1))).length + n : Nat) : Int) by omega]
      refine zok_cl (c_tit hB hR hl1 hf (n := (tX (aS A) (l - 1) (hC (aS A) (l - 1))).length + n) (by omega)) (fun x m hx => zok_lt ?_)
      have hx1 : x = (vTL (hS (aL A) (aS A) (l - 1)) (onT (hT (aS A) (l - 1)) (hC (aS A) (l - 1))) (updN (hN (aS A) (l - 1)) (hC (aS A) (l - 1)) ((tX (aS A) (l - 1) (hC (aS A) (l - 1))).length + n)) : Nat) := hx.1
      rw [hx1]
      refine zok_if (fun h2 => zok_some ?_) (fun h2 => zok_some ?_)
      · have := zcmp_le.mp h2
        rw [if_neg (by omega)]; exact ⟨rfl, hx.2.1, fun _ => hx.2.2⟩
      · have : ¬ ((vTL (hS (aL A) (aS A) (l - 1)) (onT (hT (aS A) (l - 1)) (hC (aS A) (l - 1))) (updN (hN (aS A) (l - 1)) (hC (aS A) (l - 1)) ((tX (aS A) (l - 1) (hC (aS A) (l - 1))).length + n)) : Nat) : Int) ≤ 400 := fun q => h2 (zcmp_le.mpr q)
        rw [if_pos (by omega)]; exact ⟨rfl, hx.2.1, fun _ => hx.2.2⟩
    · have : ¬ (((tX (aS A) (l - 1) (hC (aS A) (l - 1))).length : Int) + (n : Int)) ≤ 40 := fun q => h (zcmp_le.mpr q)
      rw [if_pos (by omega)]; exact ⟨rfl, zSm.rf, fun h => h⟩
theorem pSt_dep {s : zSt} {d : Nat} (hd : d ≤ tD s) (h : pSt μ 193 s) : pSt (zsI μ 193 1 (d : Nat)) 193 (stDep s d) := by
  obtain ⟨a1, a2, a3, a4, a5, a6⟩ := h
  have hlt : ∀ l, l < tD (stDep s d) → l < tD s := fun l hl => Nat.lt_of_lt_of_le hl hd
  exact ⟨(zI_ni (by decide)).trans a1, zI_eq rfl rfl, (zI_ni (by decide)).trans a3, fun l hl => by rw [zI_nk (by decide), zI_nk (by decide), zI_nk (by decide)]; exact a4 l (hlt l hl), fun l hl f hf => by
    rw [zI_nk (by decide)]
    exact ⟨(a5 l (hlt l hl) f hf).1, fun i hi => by rw [zI_nk (by decide)]; exact (a5 l (hlt l hl) f hf).2 i hi⟩, fun i hi => by rw [zI_nk (by decide)]; exact a6 i hi⟩
/-- the session ends -/
theorem c_end (hB : wB A) (hR : rC A μ) (hq : qD A ≠ 0) (hC10 : qD A - 1 ≠ 0 → hC (aS A) (qD A - 1 - 1) < 10 ∧ tC (aS A) (qD A - 1 - 1) = (hC (aS A) (qD A - 1 - 1) : Nat)) (hTX : hTL (aL A) (aS A) (qD A - 1) ≤ 400) (h0 : rsn (aL A) (aS A) (qD A - 1) (hTL (aL A) (aS A) (qD A - 1)) = 0) : zok (f5_endSession μ) (fun m => pSt m 193 (endS (aL A) (aS A)) ∧ zSm (fun c => c < 193 ∨ 208 < c) μ m) := by
  have hd : qD A ≤ 4 := hB.2.1.2.1
  have hdoc := hB.2.1.2.2.1
  have hl : qD A - 1 < tD (aS A) := by show qD A - 1 < qD A; omega
  have hlen := vTx_l (aL A) (aS A) (qD A - 1)
  obtain ⟨m1, m2, e1, e2, hv, t, t1, t2, t3, t4, t5, t6, t7, t8⟩ := c_meas hB hR hl
  unfold f5_endSession
  rw [c_dep hR]
  refine zok_gl ⟨by omega, by omega⟩ ?_
  rw [show ((qD A : Nat) : Int) - 1 = ((qD A - 1 : Nat) : Int) by omega]
  unfold f5_measuredText
  rw [e1, zcm_s, e2, zcm_s, zcl_s, show zL m2 200 8 = ((hTL (aL A) (aS A) (qD A - 1) : Nat) : Int) from t4.2.2]
  refine zok_gl ⟨by omega, by omega⟩ (zok_cm (v_text (tx := tX (aS A) (qD A - 1)) t1 t2 t3 (hB.S hl) t4 (fun f hf => ((hB.2.1.2.2.2 _ hl).2.2.2.2 f hf).1) hTX (fun f hf _ => t7 f hf)) (fun m3 h3 => ?_))
  have hv3 : zSm (fun c => c < 200 ∨ 208 < c) μ m3 := hv.tr (h3.1.mono (fun c hc => by omega))
  have hp3 : pSt m3 193 (aS A) := pSt_keep (fun k k1 k2 i => (hv3 k (by omega) i).1) hR.2.1
  have hrow : ∀ i, i < (hTx (aL A) (aS A) (qD A - 1)).length → zI m3 208 i = (hTx (aL A) (aS A) (qD A - 1)).getD i 0 := h3.2
  rw [← hlen]
  unfold rsn at h0
  unfold endS
  refine zok_if (fun hz => ?_) (fun hz => ?_)
  · have hz' : qD A - 1 = 0 := by omega
    rw [if_pos hz'] at h0
    rw [if_pos (show tD (aS A) - 1 = 0 from hz')]
    have h1 : (tDoc (aS A)).length + (hTx (aL A) (aS A) (qD A - 1)).length ≤ 600 := by
      rw [hlen]
      by_cases q : (tDoc (aS A)).length + hTL (aL A) (aS A) (qD A - 1) > 600
      · rw [if_pos q] at h0; omega
      · omega
    refine zok_cm (s_append okC_all.1 hp3 (by decide) h1 (by rw [zl_200s.2.2.2.2.2.2.2]; omega) hrow) (fun m4 h4 => ?_)
    unfold f5_endSession_76
    refine zok_lt (zok_some ⟨?_, (hv3.mono (fun c hc => by omega)).tr ((h4.2.mono (fun c hc => by omega)).sI (by omega))⟩)
    have h5 := pSt_dep (d := 0) (Nat.zero_le _) h4.1
    rw [hz'] at h5 ⊢
    exact h5
  · have hz' : qD A - 1 ≠ 0 := by omega
    obtain ⟨hf, hc⟩ := hC10 hz'
    have hl1 : qD A - 1 - 1 < tD (aS A) := by omega
    rw [if_neg hz'] at h0
    rw [if_neg (show ¬ tD (aS A) - 1 = 0 from hz')]
    have h1 : (tX (aS A) (qD A - 1 - 1) (hC (aS A) (qD A - 1 - 1))).length + (hTx (aL A) (aS A) (qD A - 1)).length ≤ 40 := by
      rw [hlen]
      by_cases q : (tX (aS A) (qD A - 1 - 1) (hC (aS A) (qD A - 1 - 1))).length + hTL (aL A) (aS A) (qD A - 1) > 40
      · rw [if_pos q] at h0; omega
      · omega
    refine zok_gl ⟨by omega, by omega⟩ (zok_gl ⟨by omega, by omega⟩ ?_)
    rw [show ((qD A - 1 : Nat) : Int) - 1 = ((qD A - 1 - 1 : Nat) : Int) by omega, zx_nat, show zI m3 195 (qD A - 1 - 1) = _ from (hp3.2.2.2.1 _ hl1).2.1, hc]
    refine zok_gd ⟨by omega, by rw [zln_c.2.2.2.2.2.2.1]; omega⟩ (zok_cm (s_type (st := 0) okC_all.1 hp3 hB.2.1 hl1 hf (by decide) h1 (by rw [zl_200s.2.2.2.2.2.2.2]; omega) (fun i hi => by rw [Nat.zero_add]; exact hrow i hi)) (fun m4 h4 => ?_))
    unfold f5_endSession_76
    refine zok_lt (zok_some ⟨?_, (hv3.mono (fun c hc => by omega)).tr ((h4.2.mono (fun c hc => by omega)).sI (by omega))⟩)
    exact pSt_dep (s := stTp (aS A) (qD A - 1 - 1) (hTx (aL A) (aS A) (qD A - 1))) (d := qD A - 1) (by show qD A - 1 ≤ qD A; omega) h4.1
/-- keepForUndo, endSession -/
theorem c_fin (hA : wA c A) (hc : c ≤ 1000) (hR : rC A μ) (hv : vOnly μ m) (hq : qD A ≠ 0) (h0 : rsn (aL A) (aS A) (qD A - 1) (hTL (aL A) (aS A) (qD A - 1)) = 0) : ∃ m1 m2, f5_keepForUndo m = some m1 ∧ f5_endSession m1 = some m2 ∧ (∀ v, cAct A μ (.inr (v, endS (aL A) (aS A))) (v, m2)) ∧ rC (aDone A (endS (aL A) (aS A))) m2 := by
  obtain ⟨m1, e1, h1, h2⟩ := c_keep hA hc (hR.only hA.1.1 hv)
  have hd : qD A ≤ 4 := hA.2.1.1.2.1
  obtain ⟨m2, e2, h3, h4⟩ := c_end (A := aDone A (aS A)) hA.B h1 hq (fun h => lv_C hA (by show qD A - 1 - 1 < qD A; omega)) (hA.2.1.2 _ (by show qD A - 1 < qD A; omega)).2.2.2 h0
  exact ⟨m1, m2, e1, e2, fun v => cAct.done hA.1.1 hv h1 h2 h4 h3, rC.st (A := aDone A (aS A)) hA.1.1 (h4.mono (fun c hc => by omega)) h1 h3⟩
theorem end_D (L : Nat → zSn) (s : zSt) : tD (endS L s) = tD s - 1 := by
  unfold endS
  by_cases h : tD s - 1 = 0
  · rw [if_pos h, h]; rfl
  · rw [if_neg h]; rfl
theorem c_finish (hA : wA c A) (hc : c ≤ 1000) (hR : rC A μ) : zok (f5_finish μ) (cAct A μ (spFinish A)) := by
  have hd : qD A ≤ 4 := hA.2.1.1.2.1
  unfold f5_finish
  rw [c_dep hR]
  by_cases hq : qD A = 0
  · have es : spFinish A = .inl 1 := by unfold spFinish; rw [if_pos hq]
    rw [es]
    exact zok_t (by omega) (zok_cl (c_refuse hA hc hR zSm.rf (by decide) (by decide)) (fun x m hx => zok_some hx))
  · have hl : qD A - 1 < tD (aS A) := by show qD A - 1 < qD A; omega
    have hT4 := (hA.2.1.2 _ hl).2.2.2
    have es : spFinish A = nxE (fun s => (tD s : Nat)) (if rsn (aL A) (aS A) (qD A - 1) (hTL (aL A) (aS A) (qD A - 1)) = 0 then .inr (endS (aL A) (aS A)) else .inl (rsn (aL A) (aS A) (qD A - 1) (hTL (aL A) (aS A) (qD A - 1)))) := by
      unfold spFinish
      rw [if_neg hq, spEnd_rsn _ _ (fun h => (lv_C hA (by omega)).1)]
    refine zok_f (by omega) (zok_gl ⟨by omega, by omega⟩ ?_)
    rw [show ((qD A : Nat) : Int) - 1 = ((qD A - 1 : Nat) : Int) by omega]
    obtain ⟨m1, m2, e1, e2, hv, t, t1, t2, t3, t4, t5, t6, t7, t8⟩ := c_meas hA.B hR hl
    unfold f5_measuredText
    rw [e1, zcm_s, e2, zcm_s, zcl_s, show zL m2 200 8 = ((hTL (aL A) (aS A) (qD A - 1) : Nat) : Int) from t4.2.2]
    refine zok_cl (c_rnte hA.B (hR.only hA.1.1 hv) (l := qD A - 1) (by omega) (fun h => lv_C hA (by omega)) hT4) (fun x m3 hx => ?_)
    have hx1 : x = (rsn (aL A) (aS A) (qD A - 1) (hTL (aL A) (aS A) (qD A - 1)) : Nat) := hx.1
    have hv3 : vOnly μ m3 := hv.tr hx.2.1
    subst hx1
    refine zok_if (fun h => ?_) (fun h => ?_)
    · rw [if_pos (by omega)] at es
      obtain ⟨m4, m5, g1, g2, g3, g4⟩ := c_fin hA hc hR hv3 hq (by omega)
      rw [es, g1, zcm_s, g2, zcm_s]
      refine zok_some ?_
      rw [show zI m5 193 1 = _ from g4.2.1.2.1]
      exact g3 _
    · have hle := rsn_le (aL A) (aS A) (qD A - 1) (hTL (aL A) (aS A) (qD A - 1))
      rw [if_neg (by omega)] at es
      rw [es]
      exact zok_cl (c_refuse hA hc hR hv3 (by omega) (by omega)) (fun x m hx => zok_some hx)
theorem c_next (hA : wA c A) (hc : c ≤ 1000) (hR : rC A μ) : zok (f5_next μ) (cAct A μ (spNext A)) := by
  unfold f5_next
  rw [c_dep hR]
  by_cases hq : qD A = 0
  · have es : spNext A = .inl 1 := by unfold spNext; rw [if_pos hq]
    rw [es]
    exact zok_t (by omega) (zok_cl (c_refuse hA hc hR zSm.rf (by decide) (by decide)) (fun x m hx => zok_some hx))
  · obtain ⟨g1, g2, g3, g4, g5, g6, g7, g8, g9, g10⟩ := q_facts hA hq
    have hl : qD A - 1 < tD (aS A) := by show qD A - 1 < qD A; omega
    have hp := plc_in (qO A) (qC A) ((qO_in hA hq).mpr g5)
    have hol := qO_len hA hq
    refine zok_f (by omega) (zok_gl ⟨by omega, by omega⟩ ?_)
    rw [show ((qD A : Nat) : Int) - 1 = ((qD A - 1 : Nat) : Int) by omega]
    refine zok_cm (c_look hA.B hR hl) (fun m1 h1 => ?_)
    obtain ⟨hv, ⟨t, t1, t2, t3, t4, t5⟩, t9⟩ := h1
    have t9 : vOl (qO A) m1 := t9
    have hR1 := hR.only hA.1.1 hv
    rw [zx_nat, show zI m1 195 (qD A - 1) = _ from (hR1.2.1.2.2.2.1 _ hl).2.1, g7]
    refine zok_gd ⟨by omega, by rw [zln_c.2.2.2.2.2.2.1]; omega⟩ (zok_co (v_place t9 hol (qC A)) (fun r hr => ?_))
    have hr' : r = plc (qO A) (qC A) := hr
    subst hr'
    rw [t9.1]
    refine zok_gl ⟨by omega, by omega⟩ (zok_if (fun h => ?_) (fun h => ?_))
    · have es : spNext A = nxE curN (if rsn (aL A) (aS A) (qD A - 1) (hTL (aL A) (aS A) (qD A - 1)) = 0 then .inr (endS (aL A) (aS A)) else .inl (rsn (aL A) (aS A) (qD A - 1) (hTL (aL A) (aS A) (qD A - 1)))) := by
        unfold spNext
        rw [if_neg hq, if_neg (by omega), spEnd_rsn _ _ (fun h => (lv_C hA (by omega)).1)]
      rw [show zL m1 200 8 = ((hTL (aL A) (aS A) (qD A - 1) : Nat) : Int) from t4.2.2]
      refine zok_cl (c_rnte hA.B hR1 (l := qD A - 1) (by omega) (fun h => lv_C hA (by omega)) g3) (fun x m3 hx => ?_)
      have hx1 : x = (rsn (aL A) (aS A) (qD A - 1) (hTL (aL A) (aS A) (qD A - 1)) : Nat) := hx.1
      have hv3 : vOnly μ m3 := hv.tr hx.2.1
      subst hx1
      refine zok_if (fun h => ?_) (fun h => ?_)
      · rw [if_pos (by omega)] at es
        obtain ⟨m4, m5, k1, k2, k3, k4⟩ := c_fin hA hc hR hv3 hq (by omega)
        have hD := end_D (aL A) (aS A)
        have e5 : zI m5 193 1 = ((qD A - 1 : Nat) : Int) := k4.2.1.2.1.trans (by show ((tD (endS (aL A) (aS A)) : Nat) : Int) = _; rw [hD])
        rw [es, k1, zcm_s, k2, zcm_s, e5]
        have eC : curN (endS (aL A) (aS A)) = if qD A - 1 = 0 then 10 else tC (endS (aL A) (aS A)) (qD A - 1 - 1) := by unfold curN; rw [hD]
        refine zok_if (fun h => zok_some ?_) (fun h => zok_gl ⟨by omega, by omega⟩ (zok_gd ⟨by omega, by rw [zln_c.2.2.2.2.2.2.1]; omega⟩ (zok_some ?_)))
        · rw [if_pos (by omega)] at eC
          have := k3 (curN (endS (aL A) (aS A)))
          rw [eC] at this
          show cAct A μ (.inr (curN (endS (aL A) (aS A)), endS (aL A) (aS A))) (10, m5)
          rw [eC]; exact this
        · rw [if_neg (by omega)] at eC
          have e6 : zI m5 195 (zx (((qD A - 1 : Nat) : Int) - 1)) = curN (endS (aL A) (aS A)) := by
            rw [show zx (((qD A - 1 : Nat) : Int) - 1) = qD A - 1 - 1 from by show (((qD A - 1 : Nat) : Int) - 1).toNat = _; omega, eC]
            exact (k4.2.1.2.2.2.1 (qD A - 1 - 1) (by show _ < tD (endS (aL A) (aS A)); rw [hD]; show qD A - 1 - 1 < qD A - 1; omega)).2.1
          rw [e6]
          exact k3 _
      · have hle := rsn_le (aL A) (aS A) (qD A - 1) (hTL (aL A) (aS A) (qD A - 1))
        rw [if_neg (by omega)] at es
        rw [es]
        exact zok_cl (c_refuse hA hc hR hv3 (by omega) (by omega)) (fun x m hx => zok_some hx)
    · have es : spNext A = .inr (((qO A).getD (plc (qO A) (qC A) + 1).toNat 0 : Nat), stCur (aS A) (qD A - 1) ((qO A).getD (plc (qO A) (qC A) + 1).toNat 0 : Nat)) := by unfold spNext; rw [if_neg hq, if_pos (by omega)]
      rw [es]
      refine zok_cm (c_keep hA hc hR1) (fun m2 h2 => ?_)
      have h206 : zI m2 206 (plc (qO A) (qC A) + 1).toNat = (((qO A).getD (plc (qO A) (qC A) + 1).toNat 0 : Nat) : Int) := ((h2.2 206 (by omega) _).1).trans (t9.2 _ (by omega))
      rw [show zx (plc (qO A) (qC A) + 1) = (plc (qO A) (qC A) + 1).toNat from rfl, h206]
      refine zok_gd ⟨by omega, by rw [zl_200s.2.2.2.2.2.1]; omega⟩ (zok_gd ⟨by omega, by rw [zln_c.2.2.2.2.2.2.1]; omega⟩ (zok_lt (zok_gd ⟨by omega, by rw [zln_c.2.2.2.2.2.2.1]; omega⟩ (zok_some ?_))))
      rw [zI_eq rfl rfl]
      exact cAct.done hA.1.1 hv h2.1 h2.2 (zSm.rf.sI (by omega)) (pSt_cur hl h2.1.2.1)
theorem ord_nil {S : zSn} {ty : Nat → Bool} {x : Int} (hW : wS S) (hz : zr x) (hb : ∀ i, i < 32 → mbit x i = vLv S ty i) (o : Int) : x = 0 ↔ vOrd S ty o = [] := by
  constructor
  · intro h
    refine List.eq_nil_iff_forall_not_mem.mpr (fun a ha => ?_)
    have h1 := (vOrd_mem hW ty o a).mp ha
    have h2 := hb a (by have := vLv_lt hW h1; omega)
    rw [h, mbit_0, h1] at h2; cases h2
  · intro h
    refine mext hz ⟨by decide, by decide⟩ (fun i hi => ?_)
    rw [hb i hi, mbit_0]
    cases e : vLv S ty i with
    | false => rfl
    | true =>
      have := (vOrd_mem hW ty o i).mpr e
      rw [h] at this; exact absurd this List.not_mem_nil
theorem rsn_push (L : Nat → zSn) (s : zSt) (k : Nat) (v : Int) (n : Nat) : rsn L (stPush s k v) (tD s) n = rsn L s (tD s) n := by
  unfold rsn
  by_cases h0 : tD s = 0
  · rw [if_pos h0, if_pos h0, show tDoc (stPush s k v) = tDoc s from rfl]
  · rw [if_neg h0, if_neg h0]
    obtain ⟨e1, e2, e3, e4⟩ := push_lo s k v (show tD s - 1 < tD s by omega)
    have f1 : hC (stPush s k v) (tD s - 1) = hC s (tD s - 1) := by unfold hC; rw [e2]
    have f2 : hS L (stPush s k v) (tD s - 1) = hS L s (tD s - 1) := by unfold hS; rw [e1]
    have f3 : hT (stPush s k v) (tD s - 1) = hT s (tD s - 1) := by unfold hT; rw [e3]
    have f4 : hN (stPush s k v) (tD s - 1) = hN s (tD s - 1) := by unfold hN; rw [e4]
    rw [f1, f2, f3, f4, e4]
theorem vTx_cg {S S' : zSn} {T T' : Nat → Bool} {X X' : Nat → List Int} (h1 : S = S') (h2 : T = T') (h3 : X = X') : vTx S T X = vTx S' T' X' := by
  subst h1; subst h2; subst h3; exact Eq.refl _
theorem hTx_push (L : Nat → zSn) (s : zSt) (k : Nat) (v : Int) : hTx L (stPush s k v) (tD s) = vTx (L k) (fun _ => false) (fun _ => []) :=
  vTx_cg (push_h L s k v).1 (push_h L s k v).2.1 (push_h L s k v).2.2.1
theorem push_d (s : zSt) (k : Nat) (v : Int) : tD (stPush s k v) - 1 = tD s := by show tD s + 1 - 1 = _; omega
theorem endS_push0 (L : Nat → zSn) (s : zSt) (k : Nat) (v w : Int) (h0 : tD s = 0) : sEq (stDep (stDoc (stPush s k v) (hTx L (stPush s k v) 0)) 0) (stDep (stDoc (stPush s k w) (hTx L (stPush s k w) 0)) 0) := by
  have h1 := hTx_push L s k v
  have h2 := hTx_push L s k w
  rw [h0] at h1 h2
  rw [h1, h2]
  generalize vTx (L k) (fun _ => false) (fun _ => []) = X
  have g1 : ∀ v, tO (stDep (stDoc (stPush s k v) X) 0) = tO s := fun _ => rfl
  have g2 : ∀ v, tD (stDep (stDoc (stPush s k v) X) 0) = 0 := fun _ => rfl
  have g3 : ∀ v, tDoc (stDep (stDoc (stPush s k v) X) 0) = tDoc s ++ X := fun _ => rfl
  exact ⟨(g1 v).trans (g1 w).symm, (g2 v).trans (g2 w).symm, (g3 v).trans (g3 w).symm, fun l hl => absurd hl (Nat.not_lt_zero l)⟩
theorem endS_push1 (L : Nat → zSn) (s : zSt) (k : Nat) (v w : Int) (h0 : tD s ≠ 0) (X : List Int) : sEq (stDep (stTp (stPush s k v) (tD s - 1) X) (tD s)) (stDep (stTp (stPush s k w) (tD s - 1) X) (tD s)) := by
  obtain ⟨e1, e2, e3, e4⟩ := push_lo s k v (show tD s - 1 < tD s by omega)
  obtain ⟨f1, f2, f3, f4⟩ := push_lo s k w (show tD s - 1 < tD s by omega)
  have c1 : hC (stPush s k v) (tD s - 1) = hC (stPush s k w) (tD s - 1) := by unfold hC; rw [e2, f2]
  have g1 : ∀ v, tO (stDep (stTp (stPush s k v) (tD s - 1) X) (tD s)) = tO s := fun _ => rfl
  have g2 : ∀ v, tD (stDep (stTp (stPush s k v) (tD s - 1) X) (tD s)) = tD s := fun _ => rfl
  have g3 : ∀ v, tDoc (stDep (stTp (stPush s k v) (tD s - 1) X) (tD s)) = tDoc s := fun _ => rfl
  have g4 : ∀ v l, tS (stDep (stTp (stPush s k v) (tD s - 1) X) (tD s)) l = tS (stPush s k v) l := fun _ _ => rfl
  have g5 : ∀ v l, tC (stDep (stTp (stPush s k v) (tD s - 1) X) (tD s)) l = tC (stPush s k v) l := fun _ _ => rfl
  refine ⟨(g1 v).trans (g1 w).symm, (g2 v).trans (g2 w).symm, (g3 v).trans (g3 w).symm, fun l hl => ?_⟩
  have hl' : l < tD s := by rw [g2] at hl; exact hl
  obtain ⟨a1, a2, a3, a4⟩ := push_lo s k v hl'
  obtain ⟨b1, b2, b3, b4⟩ := push_lo s k w hl'
  refine ⟨by rw [g4, g4, a1, b1], by rw [g5, g5, a2, b2], ?_, fun f => ?_⟩
  · have g : ∀ P : zSt, tY (stDep (stTp P (tD s - 1) X) (tD s)) l = if l = tD s - 1 then zor (tY P (tD s - 1)) (zshl 1 (hC P (tD s - 1) : Nat)) else tY P l := fun P => rfl
    rw [g, g, c1, e3, f3, a3, b3]
  · have g : ∀ P : zSt, tX (stDep (stTp P (tD s - 1) X) (tD s)) l f = if l = tD s - 1 ∧ f = hC P (tD s - 1) then tX P (tD s - 1) (hC P (tD s - 1)) ++ X else tX P l f := fun P => rfl
    rw [g, g, c1, e4, f4, a4, b4]
theorem endS_push (L : Nat → zSn) (s : zSt) (k : Nat) (v w : Int) : sEq (endS L (stPush s k v)) (endS L (stPush s k w)) := by
  unfold endS
  rw [push_d, push_d]
  by_cases h0 : tD s = 0
  · rw [if_pos h0, if_pos h0]
    exact endS_push0 L s k v w h0
  · rw [if_neg h0, if_neg h0, hTx_push, hTx_push]
    exact endS_push1 L s k v w h0 _
theorem pushB (hA : wA c A) {k : Nat} (hk : k < aN A) (hq : qD A ≠ 4) (v : Int) : wB (setS A (stPush (aS A) k v)) := by
  have hd : qD A ≤ 4 := hA.2.1.1.2.1
  obtain ⟨a1, a2, a3, a4⟩ := hA.2.1.1
  refine ⟨hA.1, ⟨a1, by show qD A + 1 ≤ 4; omega, a3, fun l hl => ?_⟩, fun l hl => ?_⟩
  · have hl' : l < tD (aS A) + 1 := hl
    show True ∧ True ∧ zr (tY (stPush (aS A) k v) l) ∧ (∀ i, 10 ≤ i → i < 32 → mbit (tY (stPush (aS A) k v) l) i = false) ∧ ∀ f, f < 10 → (tX (stPush (aS A) k v) l f).length ≤ 40 ∧ (mbit (tY (stPush (aS A) k v) l) f = false → tX (stPush (aS A) k v) l f = [])
    by_cases q : l = tD (aS A)
    · obtain ⟨p1, p2, p3, p4⟩ := push_h (aL A) (aS A) k v
      have e2 : tY (stPush (aS A) k v) l = 0 := by show (if l = tD (aS A) then _ else _) = _; rw [if_pos q]
      rw [e2, q, p3]
      exact ⟨trivial, trivial, ⟨by decide, by decide⟩, fun i _ _ => mbit_0 i, fun f _ => ⟨Nat.zero_le _, fun _ => rfl⟩⟩
    · obtain ⟨e1, e2, e3, e4⟩ := push_lo (aS A) k v (show l < tD (aS A) by omega)
      rw [e3, e4]
      exact a4 l (by omega)
  · have hl' : l < tD (aS A) + 1 := hl
    show 0 ≤ tS (stPush (aS A) k v) l ∧ tS (stPush (aS A) k v) l < aN A
    by_cases q : l = tD (aS A)
    · have e : tS (stPush (aS A) k v) l = (k : Int) := by show (if l = tD (aS A) then _ else _) = _; rw [if_pos q]
      rw [e]; omega
    · obtain ⟨e1, e2, e3, e4⟩ := push_lo (aS A) k v (show l < tD (aS A) by omega)
      rw [e1]
      have := hA.2.1.2 l (by omega)
      omega
theorem c_expand (hA : wA c A) (hc : c ≤ 1000) (hR : rC A μ) (k : Int) : zok (f5_expand k μ) (fun r => (¬ (0 ≤ k ∧ k < aN A) ∧ r = (.inl xIO, μ)) ∨ (0 ≤ k ∧ k < aN A ∧ ∃ x, r.1 = .inr x ∧ cAct A μ (spExpand A k.toNat) (x, r.2))) := by
  unfold f5_expand
  by_cases hk : 0 ≤ k ∧ k < aN A
  · have hd : qD A ≤ 4 := hA.2.1.1.2.1
    obtain ⟨t, t1, t2, t3, t4⟩ := c_sn1 hA hR hk
    rw [t2, zcx_r, c_dep hR]
    obtain ⟨j, rfl⟩ : ∃ j : Nat, k = j := ⟨k.toNat, by omega⟩
    rw [show ((j : Int)).toNat = j from rfl] at t3 t4 ⊢
    have hj : j < aN A := by omega
    refine zok_if (fun h4 => ?_) (fun h4 => ?_)
    · obtain ⟨m2, m3, e2, e3, hv, q1, q2, q3⟩ := c_bare t1 t3 t4
      have hR3 := hR.only hA.1.1 hv
      rw [e2, zcm_s, e3, zcm_s, show zL m3 200 8 = _ from q3.2.2]
      refine zok_lt (zok_if (fun hT => ?_) (fun hT => ?_))
      · have hT4 := zcmp_le.mp hT
        have hnil := ord_nil t4 q3.1.2.2.2.1 q3.1.2.2.2.2 (tO (aS A))
        -- behind the tests
        have fin : ∀ (m4 : zM) (s0 : Int) (t' : Nat) (S' : zSn) (ty' : Nat → Bool), okT t' → wS S' → vOnly m3 m4 → zR m4 200 0 = t' → pSc m4 t' S' → vShown S' ty' m4 → (s0 = 0 → S' = aL A j ∧ ty' = (fun _ => false) ∧ vOrd (aL A j) (fun _ => false) (tO (aS A)) ≠ []) → (s0 ≠ 0 → vOrd (aL A j) (fun _ => false) (tO (aS A)) = [] ∧ rsn (aL A) (aS A) (qD A) (vTL (aL A j) (fun _ => false) (fun _ => 0)) = 0) → zok (f5_expand_110 (j : Int) s0 m4) (fun r => (¬ (0 ≤ (j : Int) ∧ (j : Int) < aN A) ∧ r = (.inl xIO, μ)) ∨ (0 ≤ (j : Int) ∧ (j : Int) < aN A ∧ ∃ x, r.1 = .inr x ∧ cAct A μ (spExpand A j) (x, r.2))) := by
          intro m4 s0 t' S' ty' o4 z4 v4 r4 p4 w4 hs0 hs1
          have hv4 : vOnly μ m4 := hv.tr v4
          have hR4 := hR.only hA.1.1 hv4
          unfold f5_expand_110
          rw [show zI m4 193 0 = tO (aS A) from hR4.2.1.1]
          refine zok_cm (v_order o4 r4 p4 z4 w4 hA.2.1.1.1) (fun m8 h8 => ?_)
          have hv8 : vOnly μ m8 := hv4.tr (h8.2.1.mono (fun c hc => by omega))
          have hR8 := hR.only hA.1.1 hv8
          refine zok_gd ⟨by decide, by rw [zl_200s.2.2.2.2.2.1]; decide⟩ (zok_lt ?_)
          obtain ⟨m9, e9, k1, k2⟩ := c_keep hA hc hR8
          rw [e9, zcm_s]
          refine zok_cm (s_push okC_all.1 k1.2.1 hA.2.1.1 (show tD (aS A) < 4 by have : qD A = tD (aS A) := rfl; omega) (j : Int) (zI m8 206 (zx 0))) (fun m10 h10 => ?_)
          refine zok_if (fun hz => ?_) (fun hz => ?_)
          · obtain ⟨eS, eT, hne⟩ := hs0 hz
            subst eS
            subst eT
            have hlen : 0 < (vOrd (aL A j) (fun _ => false) (tO (aS A))).length := List.length_pos_iff.mpr hne
            have e206 : zI m8 206 (zx 0) = ((vOrd (aL A j) (fun _ => false) (tO (aS A))).getD 0 0 : Nat) := h8.1.2 0 hlen
            rw [e206] at h10
            unfold f5_expand_157
            refine zok_some (Or.inr ⟨hk.1, hk.2, _, rfl, ?_⟩)
            have es : spExpand A j = .inr ((qD A + 1 : Nat), stPush (aS A) j ((vOrd (aL A j) (fun _ => false) (tO (aS A))).getD 0 0 : Nat)) := by unfold spExpand; rw [if_neg (by omega), if_neg (by omega), if_neg hne]
            rw [es]
            have e10 : zI m10 193 1 = ((qD A + 1 : Nat) : Int) := h10.1.2.1
            show cAct A μ _ (zI m10 193 1, m10)
            rw [e10]
            exact cAct.done hA.1.1 hv8 k1 k2 (h10.2.mono (fun c hc => by omega)) h10.1
          · obtain ⟨hnl, hrs⟩ := hs1 hz
            have hR10 : rC (setS (aDone A (aS A)) (stPush (aS A) j (zI m8 206 (zx 0)))) m10 := rC.st (A := aDone A (aS A)) hA.1.1 (h10.2.mono (fun c hc => by omega)) k1 h10.1
            have hB := pushB hA hj (by omega) (zI m8 206 (zx 0))
            have hD : qD (setS (aDone A (aS A)) (stPush (aS A) j (zI m8 206 (zx 0)))) - 1 = qD A := by show tD (aS A) + 1 - 1 = tD (aS A); omega
            obtain ⟨p1, p2, p3, p4'⟩ := push_h (aL A) (aS A) j (zI m8 206 (zx 0))
            have hTl : hTL (aL A) (stPush (aS A) j (zI m8 206 (zx 0))) (qD A) = vTL (aL A j) (fun _ => false) (fun _ => 0) := by unfold hTL; rw [p1, p2, p4']
            refine zok_cm (c_end (A := setS (aDone A (aS A)) (stPush (aS A) j (zI m8 206 (zx 0)))) hB hR10 (by show tD (aS A) + 1 ≠ 0; omega) (fun h => ?_) ?_ ?_) (fun m11 h11 => ?_)
            · rw [hD] at h ⊢
              obtain ⟨a1, a2, a3, a4⟩ := push_lo (aS A) j (zI m8 206 (zx 0)) (show qD A - 1 < tD (aS A) by show qD A - 1 < qD A; omega)
              have hh := lv_C hA (show qD A - 1 < tD (aS A) by show qD A - 1 < qD A; omega)
              have e1 : hC (stPush (aS A) j (zI m8 206 (zx 0))) (qD A - 1) = hC (aS A) (qD A - 1) := by unfold hC; rw [a2]
              show hC (stPush (aS A) j (zI m8 206 (zx 0))) (qD A - 1) < 10 ∧ tC (stPush (aS A) j (zI m8 206 (zx 0))) (qD A - 1) = (hC (stPush (aS A) j (zI m8 206 (zx 0))) (qD A - 1) : Nat)
              rw [e1, a2]; exact hh
            · rw [hD]
              show hTL (aL A) (stPush (aS A) j (zI m8 206 (zx 0))) (qD A) ≤ 400
              omega
            · rw [hD]
              show rsn (aL A) (stPush (aS A) j (zI m8 206 (zx 0))) (qD A) (hTL (aL A) (stPush (aS A) j (zI m8 206 (zx 0))) (qD A)) = 0
              rw [hTl, show rsn (aL A) (stPush (aS A) j (zI m8 206 (zx 0))) (qD A) _ = _ from rsn_push (aL A) (aS A) j _ _]
              exact hrs
            · obtain ⟨h12, h13⟩ := h11
              have h14 : pSt m11 193 (endS (aL A) (stPush (aS A) j 0)) := pSt_eq (endS_push (aL A) (aS A) j _ 0) h12
              unfold f5_expand_157
              refine zok_some (Or.inr ⟨hk.1, hk.2, _, rfl, ?_⟩)
              have e0 : tD (stPush (aS A) j 0) - 1 = qD A := by show tD (aS A) + 1 - 1 = tD (aS A); omega
              obtain ⟨p1, p2, p3, p4'⟩ := push_h (aL A) (aS A) j 0
              have hTl0 : hTL (aL A) (stPush (aS A) j 0) (qD A) = vTL (aL A j) (fun _ => false) (fun _ => 0) := by unfold hTL; rw [p1, p2, p4']
              have es : spExpand A j = .inr ((tD (endS (aL A) (stPush (aS A) j 0)) : Nat), endS (aL A) (stPush (aS A) j 0)) := by
                unfold spExpand
                rw [if_neg (by omega), if_neg (by omega), if_pos hnl, spEnd_rsn _ _ (fun h => ?_), e0, hTl0, show rsn (aL A) (stPush (aS A) j 0) (qD A) _ = _ from rsn_push (aL A) (aS A) j _ _, if_pos hrs]
                · rfl
                · rw [e0] at h ⊢
                  obtain ⟨a1, a2, a3, a4⟩ := push_lo (aS A) j 0 (show qD A - 1 < tD (aS A) by show qD A - 1 < qD A; omega)
                  have e1 : hC (stPush (aS A) j 0) (qD A - 1) = hC (aS A) (qD A - 1) := by unfold hC; rw [a2]
                  rw [e1]; exact (lv_C hA (show qD A - 1 < tD (aS A) by show qD A - 1 < qD A; omega)).1
              rw [es]
              show cAct A μ _ (zI m11 193 1, m11)
              rw [show zI m11 193 1 = _ from h14.2.1]
              exact cAct.done hA.1.1 hv8 k1 k2 ((h10.2.mono (fun c hc => by omega)).tr h13) h14
        unfold f5_expand_73
        refine zok_if (fun hl0 => ?_) (fun hl0 => ?_)
        · have hnl := hnil.mp hl0
          refine zok_f (by decide) ?_
          rw [show zI m3 193 1 = (qD A : Nat) from c_dep hR3, show zL m3 200 8 = ((vTL (aL A j) (fun _ => false) (fun _ => 0) : Nat) : Int) from q3.2.2]
          refine zok_cl (c_rnte hA.B hR3 (l := qD A) (n := vTL (aL A j) (fun _ => false) (fun _ => 0)) (Nat.le_refl _) (fun h => lv_C hA (by show qD A - 1 < qD A; omega)) (by omega)) (fun x m6 hx => ?_)
          have hx1 : x = (rsn (aL A) (aS A) (qD A) (vTL (aL A j) (fun _ => false) (fun _ => 0)) : Nat) := hx.1
          subst hx1
          have hle := rsn_le (aL A) (aS A) (qD A) (vTL (aL A j) (fun _ => false) (fun _ => 0))
          refine zok_if (fun hz => ?_) (fun hz => ?_)
          · obtain ⟨t', S', ty', y1, y2, y3, y4, y5⟩ := hx.2.2 ⟨t, _, _, t1, q1, q2, t4, q3.1⟩
            exact fin m6 1 t' S' ty' y1 y4 hx.2.1 y2 y3 y5 (fun h => absurd h (by decide)) (fun _ => ⟨hnl, by omega⟩)
          · have e0 : tD (stPush (aS A) j 0) - 1 = qD A := by show tD (aS A) + 1 - 1 = tD (aS A); omega
            obtain ⟨p1, p2, p3, p4'⟩ := push_h (aL A) (aS A) j 0
            have hTl0 : hTL (aL A) (stPush (aS A) j 0) (qD A) = vTL (aL A j) (fun _ => false) (fun _ => 0) := by unfold hTL; rw [p1, p2, p4']
            have es : spExpand A j = .inl (rsn (aL A) (aS A) (qD A) (vTL (aL A j) (fun _ => false) (fun _ => 0))) := by
              unfold spExpand
              rw [if_neg (by omega), if_neg (by omega), if_pos hnl, spEnd_rsn _ _ (fun h => ?_), e0, hTl0, show rsn (aL A) (stPush (aS A) j 0) (qD A) _ = _ from rsn_push (aL A) (aS A) j _ _, if_neg (show ¬ rsn (aL A) (aS A) (qD A) (vTL (aL A j) (fun _ => false) (fun _ => 0)) = 0 by omega)]
              · rfl
              · rw [e0] at h ⊢
                obtain ⟨a1, a2, a3, a4⟩ := push_lo (aS A) j 0 (show qD A - 1 < tD (aS A) by show qD A - 1 < qD A; omega)
                have e1 : hC (stPush (aS A) j 0) (qD A - 1) = hC (aS A) (qD A - 1) := by unfold hC; rw [a2]
                rw [e1]; exact (lv_C hA (show qD A - 1 < tD (aS A) by show qD A - 1 < qD A; omega)).1
            rw [es]
            exact zok_cl (c_refuse hA hc hR (hv.tr hx.2.1) (by omega) (by omega)) (fun x m hx => zok_some (Or.inr ⟨hk.1, hk.2, x, rfl, hx⟩))
        · exact zok_t rfl (fin m3 0 t (aL A j) (fun _ => false) t1 t4 zSm.rf q1 q2 q3.1 (fun _ => ⟨rfl, rfl, fun h => hl0 (hnil.mpr h)⟩) (fun h => absurd rfl h))
      · have hT4 : ¬ ((vTL (aL A j) (fun _ => false) (fun _ => 0) : Nat) : Int) ≤ 400 := fun q => hT (zcmp_le.mpr q)
        have es : spExpand A j = .inl 3 := by unfold spExpand; rw [if_neg (by omega), if_pos (by omega)]
        rw [es]
        exact zok_cl (c_refuse hA hc hR hv (by decide) (by decide)) (fun x m hx => zok_some (Or.inr ⟨hk.1, hk.2, x, rfl, hx⟩))
    · have es : spExpand A j = .inl 2 := by unfold spExpand; rw [if_pos (by omega)]
      rw [es]
      exact zok_cl (c_refuse hA hc hR zSm.rf (by decide) (by decide)) (fun x m hx => zok_some (Or.inr ⟨hk.1, hk.2, x, rfl, hx⟩))
  · rw [c_sn0 hR hk, zcx_l]
    exact zok_some (Or.inl ⟨hk, rfl⟩)
end cActs2
