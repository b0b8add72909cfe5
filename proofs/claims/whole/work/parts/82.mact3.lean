/-! THE REFERENCE'S ACTS that ask for a TEXT -/
section mAct3
variable {A : zA} {c : Int} {μ m : zM} {s : zSt}
/-- behind ends(): told, or refused -/
theorem n_fin (hA : wA c A) (hc : c ≤ 1000) (hq : qD A ≠ 0) (hB : mB A μ m) (hp : pMs m 293 0 (aS A)) : zok (f7_ends m) (fun q => mB A μ q.2 ∧ zI q.2 293 0 = ((qD A - 1 : Nat) : Int) ∧ q.1 = (rsn (aL A) (aS A) (qD A - 1) (hTL (aL A) (aS A) (qD A - 1)) : Nat) ∧ (rsn (aL A) (aS A) (qD A - 1) (hTL (aL A) (aS A) (qD A - 1)) = 0 → pMs q.2 293 0 (endS (aL A) (aS A)))) := by
  have hl : qD A - 1 < tD (aS A) := by show qD A - 1 < qD A; omega
  refine zok_mono (b_ends hA.1 hB hp hA.2.1.1 (fun l hl => ⟨(hA.2.1.2 l hl).1, (hA.2.1.2 l hl).2.1⟩) hq (fun h => lv_C hA (by have h' : qD A - 1 ≠ 0 := h; show qD A - 1 - 1 < qD A; omega)) (hA.2.1.2 _ hl).2.2.2) (fun q hq => ⟨hq.2.1, hq.2.2.2, hq.1, hq.2.2.1⟩)
theorem es_end (hA : wA c A) (hq : qD A ≠ 0) (f : zSt → Int) : nxE f (spEnd (aL A) (aS A)) = if rsn (aL A) (aS A) (qD A - 1) (hTL (aL A) (aS A) (qD A - 1)) = 0 then .inr (f (endS (aL A) (aS A)), endS (aL A) (aS A)) else .inl (rsn (aL A) (aS A) (qD A - 1) (hTL (aL A) (aS A) (qD A - 1))) := by
  rw [spEnd_rsn _ _ (fun h => (lv_C hA (by have h' : qD A - 1 ≠ 0 := h; show qD A - 1 - 1 < qD A; omega)).1)]
  show nxE f (if rsn (aL A) (aS A) (qD A - 1) (hTL (aL A) (aS A) (qD A - 1)) = 0 then _ else _) = _
  by_cases h : rsn (aL A) (aS A) (qD A - 1) (hTL (aL A) (aS A) (qD A - 1)) = 0
  · rw [if_pos h, if_pos h]; rfl
  · rw [if_neg h, if_neg h]; rfl
theorem n_finish (hA : wA c A) (hc : c ≤ 1000) (hR : rM A μ) : zok (f7_finish μ) (nAct A μ (spFinish A)) := by
  unfold f7_finish
  refine zok_lt (zok_cm (n_start hA hR) (fun m2 h2 => zok_gd zin0 ?_))
  obtain ⟨hB, hp⟩ := h2
  rw [p_dep hp]
  by_cases hq : qD A = 0
  · have es : spFinish A = .inl 1 := by unfold spFinish; rw [if_pos hq]
    rw [es]
    exact zok_t (by show ((qD A : Nat) : Int) = 0; omega) (zok_cl (b_refused hA.2.1.1 (hAcc hA hc) hB (by decide) (by decide)) (fun x m hx => zok_some hx))
  · have es : spFinish A = nxE (fun s => (tD s : Nat)) (spEnd (aL A) (aS A)) := by unfold spFinish; rw [if_neg hq]
    rw [es, es_end hA hq]
    have hle := rsn_le (aL A) (aS A) (qD A - 1) (hTL (aL A) (aS A) (qD A - 1))
    refine zok_f (by show ¬ ((qD A : Nat) : Int) = 0; omega) (zok_cl (n_fin hA hc hq hB hp) (fun x m3 hx => zok_gd zin0 ?_))
    obtain ⟨x1, x2, x3, x4⟩ := hx
    have x3' : x = (rsn (aL A) (aS A) (qD A - 1) (hTL (aL A) (aS A) (qD A - 1)) : Nat) := x3
    subst x3'
    have e0 : zI m3 293 (zx 0) = ((tD (endS (aL A) (aS A)) : Nat) : Int) := by rw [end_D]; exact x2
    rw [e0]
    exact zok_cl (b_tells hA.2.1.1 (hAcc hA hc) (hUn hA) x1 (by omega) x4 _) (fun x m hx => zok_some hx)
theorem n_next (hA : wA c A) (hc : c ≤ 1000) (hR : rM A μ) : zok (f7_next μ) (nAct A μ (spNext A)) := by
  have hd : qD A ≤ 4 := hA.2.1.1.2.1
  have hd' : tD (aS A) ≤ 4 := hd
  unfold f7_next
  refine zok_lt (zok_cm (n_start hA hR) (fun m2 h2 => zok_gd zin0 ?_))
  obtain ⟨hB, hp⟩ := h2
  rw [p_dep hp]
  by_cases hq : qD A = 0
  · have es : spNext A = .inl 1 := by unfold spNext; rw [if_pos hq]
    rw [es]
    exact zok_t (by show ((qD A : Nat) : Int) = 0; omega) (zok_cl (b_refused hA.2.1.1 (hAcc hA hc) hB (by decide) (by decide)) (fun x m hx => zok_some hx))
  · obtain ⟨g1, g2, g3, g4, g5, g6, g7, g8, g9, g10⟩ := q_facts hA hq
    have hl : qD A - 1 < tD (aS A) := by show qD A - 1 < qD A; omega
    have hpl := plc_in (qO A) (qC A) ((qO_in hA hq).mpr g5)
    have hol := qO_len hA hq
    have hle := rsn_le (aL A) (aS A) (qD A - 1) (hTL (aL A) (aS A) (qD A - 1))
    refine zok_f (by show ¬ ((qD A : Nat) : Int) = 0; omega) (zok_gd zin0 (zok_gl ⟨by omega, by omega⟩ (zok_cm (b_lays hA hB hp hq) (fun m3 h3 => ?_))))
    obtain ⟨hk, hs3⟩ := h3
    obtain ⟨b, k, k1, k2, k3, k4, k5, k6, k7⟩ := n_inn hA hq hk
    refine zok_cm (m_laysLeaving k1 k2 k7 g9) (fun m4 h4 => ?_)
    have hO : mOl (qO A) m4 := h4.1
    have hs4 := hs3.tr h4.2.scr
    have hB4 := hB.scr hs4
    have hp4 : pMs m4 293 0 (aS A) := pMs_keep (fun i => (hs4.1 293 (by omega) i).1) hp
    have e1 : zx (((604 + 413 * (qD A - 1) : Nat) : Int) + 1) = 604 + 413 * (qD A - 1) + 1 := by show (_ : Int).toNat = _; omega
    have e2 : zI m4 293 (604 + 413 * (qD A - 1) + 1) = (qC A : Nat) := by
      have := (hp4.2.2.2.2 _ hl).2.1
      rw [Nat.zero_add] at this
      rw [this, g7]
    rw [k_sa (hk.fo h4.2)]
    refine zok_gl ⟨by omega, by omega⟩ (zok_gd ⟨by omega, by rw [zl_m.1]; omega⟩ ?_)
    rw [e1, e2]
    refine zok_co (m_placeOf hO hol (qC A)) (fun r hr => ?_)
    subst hr
    rw [hO.1]
    refine zok_gl ⟨by omega, by omega⟩ (zok_if (fun h => ?_) (fun h => ?_))
    · have es : spNext A = nxE curN (spEnd (aL A) (aS A)) := by unfold spNext; rw [if_neg hq, if_neg (by omega)]
      rw [es, es_end hA hq]
      refine zok_cl (n_fin hA hc hq hB4 hp4) (fun x m5 hx => ?_)
      obtain ⟨x1, x2, x3, x4⟩ := hx
      have x3' : x = (rsn (aL A) (aS A) (qD A - 1) (hTL (aL A) (aS A) (qD A - 1)) : Nat) := x3
      subst x3'
      have e0 : zI m5 293 (zx 0) = ((qD A - 1 : Nat) : Int) := x2
      unfold f7_next_93
      have hcur : zok (f7_currentNow m5) (fun r => rsn (aL A) (aS A) (qD A - 1) (hTL (aL A) (aS A) (qD A - 1)) = 0 → r = curN (endS (aL A) (aS A))) := by
        unfold f7_currentNow
        refine zok_gd zin0 ?_
        rw [e0]
        have eC : curN (endS (aL A) (aS A)) = if qD A - 1 = 0 then 10 else tC (endS (aL A) (aS A)) (qD A - 1 - 1) := by unfold curN; rw [end_D]
        refine zok_if (fun h => zok_some (fun _ => ?_)) (fun h => zok_gd zin0 (zok_gl ⟨by omega, by omega⟩ (zok_gl ⟨by omega, by omega⟩ (zok_gl ⟨by omega, by omega⟩ (zok_gl ⟨by omega, by omega⟩ (zok_gd ⟨by omega, by rw [zl_m.1]; omega⟩ (zok_some (fun h0 => ?_))))))))
        · rw [eC, if_pos (by omega)]
        · rw [eC, if_neg (by omega), show zx (604 + 413 * (((qD A - 1 : Nat) : Int) - 1) + 1) = 604 + 413 * (qD A - 1 - 1) + 1 from by show (_ : Int).toNat = _; omega]
          have := ((x4 h0).2.2.2.2 (qD A - 1 - 1) (by rw [end_D]; show qD A - 1 - 1 < qD A - 1; omega)).2.1
          rw [Nat.zero_add] at this
          exact this
      refine zok_co hcur (fun r hr => ?_)
      by_cases h0 : rsn (aL A) (aS A) (qD A - 1) (hTL (aL A) (aS A) (qD A - 1)) = 0
      · rw [hr h0]
        exact zok_cl (b_tells hA.2.1.1 (hAcc hA hc) (hUn hA) x1 (by omega) x4 _) (fun x m hx => zok_some hx)
      · have := b_tells hA.2.1.1 (hAcc hA hc) (hUn hA) x1 (by omega) x4 r
        rw [if_neg h0] at this ⊢
        exact zok_cl this (fun x m hx => zok_some hx)
    · have es : spNext A = .inr (((qO A).getD (plc (qO A) (qC A) + 1).toNat 0 : Nat), stCur (aS A) (qD A - 1) ((qO A).getD (plc (qO A) (qC A) + 1).toNat 0 : Nat)) := by unfold spNext; rw [if_neg hq, if_pos (by omega)]
      rw [es]
      have e3 : zI m4 336 (zx (plc (qO A) (qC A) + 1)) = (((qO A).getD (plc (qO A) (qC A) + 1).toNat 0 : Nat) : Int) := hO.2 (plc (qO A) (qC A) + 1).toNat (by omega)
      refine zok_gl ⟨by omega, by omega⟩ (zok_gd ⟨by omega, by rw [zl_m2.2.2.2.2.2.1]; omega⟩ (zok_gd ⟨by omega, by rw [zl_m.1]; omega⟩ (zok_lt ?_)))
      rw [e3, e1]
      have hpC := pMs_cur (v := (((qO A).getD (plc (qO A) (qC A) + 1).toNat 0 : Nat) : Int)) hA.2.1.1 hl hp4
      have hB5 : mB A μ (zsI m4 293 (604 + 413 * (qD A - 1) + 1) (((qO A).getD (plc (qO A) (qC A) + 1).toNat 0 : Nat) : Int)) := hB4.row (zSm.rf.sI (fun q => q rfl))
      unfold f7_next_93
      have hcur : zok (f7_currentNow (zsI m4 293 (604 + 413 * (qD A - 1) + 1) (((qO A).getD (plc (qO A) (qC A) + 1).toNat 0 : Nat) : Int))) (fun r => r = (((qO A).getD (plc (qO A) (qC A) + 1).toNat 0 : Nat) : Int)) := by
        unfold f7_currentNow
        refine zok_gd zin0 ?_
        rw [p_dep hpC, show tD (stCur (aS A) (qD A - 1) (((qO A).getD (plc (qO A) (qC A) + 1).toNat 0 : Nat) : Int)) = qD A from rfl]
        refine zok_f (by omega) (zok_gd zin0 (zok_gl ⟨by omega, by omega⟩ (zok_gl ⟨by omega, by omega⟩ (zok_gl ⟨by omega, by omega⟩ (zok_gl ⟨by omega, by omega⟩ (zok_gd ⟨by omega, by rw [zl_m.1]; omega⟩ (zok_some ?_)))))))
        rw [show zx (604 + 413 * (((qD A : Nat) : Int) - 1) + 1) = 604 + 413 * (qD A - 1) + 1 from by show (_ : Int).toNat = _; omega, zI_eq rfl rfl]
      refine zok_co hcur (fun r hr => ?_)
      subst hr
      have := b_tells (w := 0) hA.2.1.1 (hAcc hA hc) (hUn hA) hB5 (by decide) (fun _ => hpC) (((qO A).getD (plc (qO A) (qC A) + 1).toNat 0 : Nat) : Int)
      rw [if_pos rfl] at this
      exact zok_cl this (fun x m hx => zok_some hx)
theorem n_reset (hA : wA c A) (hc : c ≤ 1000) (hR : rM A μ) : zok (f7_reset μ) (nAct A μ (spReset A)) := by
  have hd : qD A ≤ 4 := hA.2.1.1.2.1
  have hd' : tD (aS A) ≤ 4 := hd
  unfold f7_reset
  refine zok_lt (zok_cm (n_start hA hR) (fun m2 h2 => zok_gd zin0 ?_))
  obtain ⟨hB, hp⟩ := h2
  rw [p_dep hp]
  by_cases hq : qD A = 0
  · have es : spReset A = .inl 1 := by unfold spReset; rw [if_pos hq]
    rw [es]
    exact zok_t (by show ((qD A : Nat) : Int) = 0; omega) (zok_cl (b_refused hA.2.1.1 (hAcc hA hc) hB (by decide) (by decide)) (fun x m hx => zok_some hx))
  · obtain ⟨g1, g2, g3, g4, g5, g6, g7, g8, g9, g10⟩ := q_facts hA hq
    have hl : qD A - 1 < tD (aS A) := by show qD A - 1 < qD A; omega
    refine zok_f (by show ¬ ((qD A : Nat) : Int) = 0; omega) (zok_gd zin0 (zok_gl ⟨by omega, by omega⟩ (zok_cm (b_lays hA hB hp hq) (fun m3 h3 => ?_))))
    obtain ⟨hk, hs3⟩ := h3
    obtain ⟨b, k, k1, k2, k3, k4, k5, k6, k7⟩ := n_inn hA hq hk
    have hB3 := hB.scr hs3
    have hp3 : pMs m3 293 0 (aS A) := pMs_keep (fun i => (hs3.1 293 (by omega) i).1) hp
    have hrow := hp3.2.2.2.2 _ hl
    simp only [Nat.zero_add] at hrow
    have e1 : zx (((604 + 413 * (qD A - 1) : Nat) : Int) + 1) = 604 + 413 * (qD A - 1) + 1 := by show (_ : Int).toNat = _; omega
    have e2 : zx (((604 + 413 * (qD A - 1) : Nat) : Int) + 2) = 604 + 413 * (qD A - 1) + 2 := by show (_ : Int).toNat = _; omega
    have e3 : zx (((604 + 413 * (qD A - 1) : Nat) : Int) + 3 + (qC A : Int)) = 604 + 413 * (qD A - 1) + 3 + qC A := by show (_ : Int).toNat = _; omega
    rw [k_sa hk]
    refine zok_gl ⟨by omega, by omega⟩ (zok_gd ⟨by omega, by rw [zl_m.1]; omega⟩ (zok_lt ?_))
    rw [e1, hrow.2.1, g7]
    refine zok_co (m_isTyped k1 (qC A : Int) (by omega) (by omega)) (fun b hb => ?_)
    rw [show ((qC A : Int)).toNat = qC A from rfl] at hb
    subst hb
    cases hTT : qT A (qC A) with
    | false =>
      have es : spReset A = .inl 6 := by unfold spReset; rw [if_neg hq, if_pos hTT]
      rw [es]
      exact zok_t rfl (zok_cl (b_refused hA.2.1.1 (hAcc hA hc) hB3 (by decide) (by decide)) (fun x m hx => zok_some hx))
    | true =>
      refine zok_f (by decide) (zok_gl ⟨by omega, by omega⟩ (zok_gd ⟨by omega, by rw [zl_m.1]; omega⟩ (zok_lt (zok_lt (zok_lt (zok_gd ⟨by omega, by rw [zl_m.1]; omega⟩ (zok_lt ?_)))))))
      rw [e2, hrow.2.2.1, zI_nk (by decide), k_sa hk]
      refine zok_gl ⟨by omega, by omega⟩ (zok_gl ⟨by omega, by omega⟩ (zok_gd ⟨by omega, by rw [zl_m.1]; omega⟩ (zok_lt ?_)))
      rw [e3]
      generalize hm5 : zsI (zsI m3 293 (604 + 413 * (qD A - 1) + 2) (zand (tY (aS A) (qD A - 1)) (zxor (zshl 1 (qC A : Nat)) (-1)))) 293 (604 + 413 * (qD A - 1) + 3 + qC A) 0 = m5
      have f5 : zSm (fun c => c ≠ 293) m3 m5 := by rw [← hm5]; exact (zSm.rf.sI (fun q => q rfl)).sI (fun q => q rfl)
      have hp5 : pMs m5 293 0 (stRs A) := by
        refine pMs_fld (x := []) hA.2.1.1 hl g4 hp3 ?_ ?_ (fun i hi => absurd hi (Nat.not_lt_zero i)) (fun i i1 i2 i3 => ?_)
        · rw [← hm5, zI_ni (by omega), zI_eq rfl rfl]
        · rw [← hm5, zI_eq rfl rfl]; rfl
        · rw [← hm5, zI_ni i2, zI_ni i1]
      have hB5 := hB3.row f5
      have hw5 : wSt (stRs A) := wSt_un hA.2.1.1 g4
      have hx := hA.2.1.2 _ hl
      rw [show ((tD (aS A) : Nat) : Int) - 1 = ((qD A - 1 : Nat) : Int) by show ((qD A : Nat) : Int) - 1 = _; omega]
      refine zok_cl (b_tooLong (s := stRs A) hB5.1 hA.1 hp5 hw5 (show qD A - 1 < tD (stRs A) from hl) ⟨hx.1, hx.2.1⟩) (fun y m6 h6 => ?_)
      obtain ⟨y1, y2, y3⟩ := h6
      have y1' : y = decide (hTL (aL A) (stRs A) (qD A - 1) > 400) := y1
      have hB6 := hB5.scr y2
      have hp6 : pMs m6 293 0 (stRs A) := pMs_keep (fun i => (y2.1 293 (by omega) i).1) hp5
      have hlen6 := y3.len
      obtain ⟨b', k', z1, z2, z3, z4, z5, z6⟩ := y3
      have hval := m_valueLength (m := m6) (ln := hN (stRs A) (qD A - 1)) z1 z2 hlen6 (hN_le hw5 (show qD A - 1 < tD (stRs A) from hl)) g4 (⟨zSm.rf, z3⟩ : mJ (hS (aL A) (stRs A) (qD A - 1)) (hT (stRs A) (qD A - 1)) (hN (stRs A) (qD A - 1)) m6 m6)
      subst y1'
      by_cases h4 : hTL (aL A) (stRs A) (qD A - 1) > 400
      · have es : spReset A = .inl 3 := by unfold spReset; rw [if_neg hq, if_neg (by rw [hTT]; decide), if_pos h4]
        rw [decide_eq_true h4, es]
        refine zok_f (by decide) ?_
        unfold f7_reset_111
        refine zok_cl hval (fun x m7 hx7 => ?_)
        have := b_tells (w := 3) (s := stRs A) hA.2.1.1 (hAcc hA hc) (hUn hA) (hB6.scr hx7.2.scr) (by decide) (fun h => by cases h) x
        rw [if_neg (by decide)] at this
        exact zok_cl this (fun x m hx => zok_some hx)
      · have es : spReset A = .inr ((vL (qS A) (hT (stRs A) (qD A - 1)) (hN (stRs A) (qD A - 1)) (qC A) : Nat), stRs A) := by unfold spReset; rw [if_neg hq, if_neg (by rw [hTT]; decide), if_neg h4]
        rw [decide_eq_false h4, es]
        refine zok_t rfl ?_
        unfold f7_reset_111
        refine zok_cl hval (fun x m7 hx7 => ?_)
        have hx1 : x = (vL (qS A) (hT (stRs A) (qD A - 1)) (hN (stRs A) (qD A - 1)) (qC A) : Nat) := by
          have h9 : x = (mL (qS A) (hT (stRs A) (qD A - 1)) (hN (stRs A) (qD A - 1)) (qC A) : Int) := hx7.1
          rw [mL_same g1 _ (hN_le hw5 (show qD A - 1 < tD (stRs A) from hl)) (by have e9 : vTL (qS A) (hT (stRs A) (qD A - 1)) (hN (stRs A) (qD A - 1)) = hTL (aL A) (stRs A) (qD A - 1) := rfl; omega) g4] at h9; exact h9
        rw [hx1]
        have := b_tells (w := 0) (s := stRs A) hA.2.1.1 (hAcc hA hc) (hUn hA) (hB6.scr hx7.2.scr) (by decide) (fun _ => pMs_keep (fun i => (hx7.2.1 293 (by decide) i).1) hp6) ((vL (qS A) (hT (stRs A) (qD A - 1)) (hN (stRs A) (qD A - 1)) (qC A) : Nat) : Int)
        rw [if_pos rfl] at this
        exact zok_cl this (fun x m hx => zok_some hx)
theorem n_erase (hA : wA c A) (hc : c ≤ 1000) (hR : rM A μ) : zok (f7_erase μ) (nAct A μ (spErase A)) := by
  have hd : qD A ≤ 4 := hA.2.1.1.2.1
  have hd' : tD (aS A) ≤ 4 := hd
  unfold f7_erase
  refine zok_lt (zok_cm (n_start hA hR) (fun m2 h2 => zok_gd zin0 ?_))
  obtain ⟨hB, hp⟩ := h2
  rw [p_dep hp]
  by_cases hq : qD A = 0
  · have es : spErase A = .inl 1 := by unfold spErase; rw [if_pos hq]
    rw [es]
    exact zok_t (by show ((qD A : Nat) : Int) = 0; omega) (zok_cl (b_refused hA.2.1.1 (hAcc hA hc) hB (by decide) (by decide)) (fun x m hx => zok_some hx))
  · obtain ⟨g1, g2, g3, g4, g5, g6, g7, g8, g9, g10⟩ := q_facts hA hq
    have hl : qD A - 1 < tD (aS A) := by show qD A - 1 < qD A; omega
    have hv4 := vV_400 g1 g2 g3 g4
    refine zok_f (by show ¬ ((qD A : Nat) : Int) = 0; omega) (zok_gd zin0 (zok_gl ⟨by omega, by omega⟩ (zok_cm (b_lays hA hB hp hq) (fun m3 h3 => ?_))))
    obtain ⟨hk, hs3⟩ := h3
    have hp3 : pMs m3 293 0 (aS A) := pMs_keep (fun i => (hs3.1 293 (by omega) i).1) hp
    have hrow := hp3.2.2.2.2 _ hl
    simp only [Nat.zero_add] at hrow
    have e1 : zx (((604 + 413 * (qD A - 1) : Nat) : Int) + 1) = 604 + 413 * (qD A - 1) + 1 := by show (_ : Int).toNat = _; omega
    have e2 : zx (((604 + 413 * (qD A - 1) : Nat) : Int) + 2) = 604 + 413 * (qD A - 1) + 2 := by show (_ : Int).toNat = _; omega
    rw [k_sa hk]
    refine zok_gl ⟨by omega, by omega⟩ (zok_gd ⟨by omega, by rw [zl_m.1]; omega⟩ (zok_lt ?_))
    rw [e1, hrow.2.1, g7]
    refine zok_lt (zok_cm (k_value hA hq hk g4) (fun m5 h5 => ?_))
    obtain ⟨v1, v2, v3⟩ := h5
    have hs5 := hs3.tr v1.scr
    have hB5 := hB.scr hs5
    have hp5 : pMs m5 293 0 (aS A) := pMs_keep (fun i => (hs5.1 293 (by omega) i).1) hp
    have h22 : zI m5 292 22 = ((604 + 413 * (qD A - 1) : Nat) : Int) := (v1.2.2 22 (by decide)).trans (k_sa hk)
    rw [v2]
    refine zok_if (fun h0 => ?_) (fun h0 => ?_)
    · have es : spErase A = .inl 5 := by unfold spErase; rw [if_neg hq, if_pos (by omega)]
      rw [es]
      exact zok_cl (b_refused hA.2.1.1 (hAcc hA hc) hB5 (by decide) (by decide)) (fun x m hx => zok_some hx)
    · refine zok_gl ⟨by omega, by omega⟩ ?_
      rw [show ((vV (qS A) (qT A) (qX A) (qC A)).length : Int) - 1 = (((vV (qS A) (qT A) (qX A) (qC A)).length - 1 : Nat) : Int) by omega, show ((tD (aS A) : Nat) : Int) - 1 = ((qD A - 1 : Nat) : Int) by show ((qD A : Nat) : Int) - 1 = _; omega]
      refine zok_x5 (fun (x1 x2 x3 x4 : Int) m6 => x1 = ((qD A - 1 : Nat) : Int) ∧ x2 = (qC A : Nat) ∧ x3 = (((vV (qS A) (qT A) (qX A) (qC A)).length - 1 : Nat) : Int) ∧ ∃ j : Nat, x4 = j ∧ j ≤ (vV (qS A) (qT A) (qX A) (qC A)).length - 1 ∧ zSm (fun c => c ≠ 338) m5 m6 ∧ ∀ i, i < j → zI m6 338 i = (vV (qS A) (qT A) (qX A) (qC A)).getD i 0) (fun _ _ _ x4 _ => 400 - x4.toNat) (fun kk x1 x2 x3 x4 m6 hx ih => ?_) zFu _ _ _ 0 m5 ⟨rfl, rfl, rfl, 0, rfl, by omega, zSm.rf, fun i hi => absurd hi (Nat.not_lt_zero i)⟩ (by show 400 - 0 < 100000; omega)
      obtain ⟨rfl, rfl, rfl, j, rfl, j1, j2, j3⟩ := hx
      unfold f7_erase_83
      refine zok_if (fun h9 => ?_) (fun h9 => ?_)
      · have hj : j = (vV (qS A) (qT A) (qX A) (qC A)).length - 1 := by omega
        subst hj
        have hB6 : mB A μ m6 := hB5.fb ⟨j2.mono (fun c hc => by omega), fun i => (j2 292 (by decide) i).2.2, fun i _ => (j2 292 (by decide) i).1⟩ (fun i => (j2 294 (by decide) i).1)
        have hp6 : pMs m6 293 0 (aS A) := pMs_keep (fun i => (j2 293 (by decide) i).1) hp5
        have hrow6 := hp6.2.2.2.2 _ hl
        simp only [Nat.zero_add] at hrow6
        rw [(j2 292 (by decide) 22).1, h22]
        refine zok_gl ⟨by omega, by omega⟩ (zok_gd ⟨by omega, by rw [zl_m.1]; omega⟩ (zok_lt (zok_lt (zok_lt (zok_gd ⟨by omega, by rw [zl_m.1]; omega⟩ (zok_lt ?_))))))
        rw [e2, hrow6.2.2.1]
        generalize hm7 : zsI m6 293 (604 + 413 * (qD A - 1) + 2) (zand (tY (aS A) (qD A - 1)) (zxor (zshl 1 (qC A : Nat)) (-1))) = m7
        have f7 : zSm (fun c => c ≠ 293) m6 m7 := by rw [← hm7]; exact zSm.rf.sI (fun q => q rfl)
        have hB7 := hB6.row f7
        have r7 : ∀ i, i ≠ 604 + 413 * (qD A - 1) + 2 → zI m7 293 i = zI m6 293 i := fun i hi => by rw [← hm7, zI_ni hi]
        have hxl : ((vV (qS A) (qT A) (qX A) (qC A)).take ((vV (qS A) (qT A) (qX A) (qC A)).length - 1)).length = (vV (qS A) (qT A) (qX A) (qC A)).length - 1 := by rw [List.length_take]; omega
        refine zok_cl (b_typesR (r := 338) (h := 0) (y := zand (tY (aS A) (qD A - 1)) (zxor (zshl 1 (qC A : Nat)) (-1))) (n := (vV (qS A) (qT A) (qX A) (qC A)).length - 1) (by omega) g4 (by rw [r7 _ (by omega), hrow6.2.1, g7]) (by rw [← hm7, zI_eq rfl rfl]) (fun h => by rw [mb_off g4, if_pos rfl] at h; cases h) (fun _ => rfl) (by decide) (by omega) (by decide) (by rw [zl_m2.2.2.2.2.2.2.2]; omega)) (fun b m8 h8 => ?_)
        obtain ⟨n1, n2⟩ := h8
        by_cases h40 : (vV (qS A) (qT A) (qX A) (qC A)).length - 1 > 40
        · have hq9 := n1 (by omega)
          have eb : b = false := congrArg Prod.fst hq9
          have em : m8 = m7 := congrArg Prod.snd hq9
          subst eb
          subst em
          have es : spErase A = .inl 4 := by unfold spErase; rw [if_neg hq, if_neg (by omega), if_pos h40]
          rw [es]
          refine zok_t rfl ?_
          unfold f7_erase_158
          have := b_tells (w := 4) (s := stEr A) hA.2.1.1 (hAcc hA hc) (hUn hA) hB7 (by decide) (fun h => by cases h) (((vV (qS A) (qT A) (qX A) (qC A)).length - 1 : Nat) : Int)
          rw [if_neg (by decide)] at this
          exact zok_cl this (fun x m hx => zok_some hx)
        · obtain ⟨p1, p2, p3, p4, p5, p6⟩ := n2 (by omega)
          have eb : b = true := p1
          subst eb
          have hB8 := hB7.row p2
          have hp8 : pMs m8 293 0 (stEr A) := by
            unfold stEr
            rw [un_on hA g4]
            refine pMs_fld hA.2.1.1 hl g4 hp6 p3 ?_ (fun i hi => ?_) (fun i i1 i2 i3 => (p6 i i1 i2 (by omega)).trans (r7 i i1))
            · rw [p4, hxl, Nat.zero_add]
            · rw [hxl] at hi
              have := p5 i hi
              rw [Nat.add_zero] at this
              rw [this, (f7 338 (by decide) i).1, j3 i hi, List.getD_eq_getElem?_getD, List.getD_eq_getElem?_getD, List.getElem?_take, if_pos hi]
          have hw8 : wSt (stEr A) := wSt_ty (wSt_un hA.2.1.1 g4) g4 (by rw [hxl]; omega)
          have hx := hA.2.1.2 _ hl
          refine zok_f (by decide) (zok_cl (b_tooLong (s := stEr A) hB8.1 hA.1 hp8 hw8 (show qD A - 1 < tD (stEr A) from hl) ⟨hx.1, hx.2.1⟩) (fun y m9 h9 => ?_))
          obtain ⟨y1, y2, y3⟩ := h9
          have y1' : y = decide (hTL (aL A) (stEr A) (qD A - 1) > 400) := y1
          have hB9 := hB8.scr y2
          have hp9 : pMs m9 293 0 (stEr A) := pMs_keep (fun i => (y2.1 293 (by omega) i).1) hp8
          subst y1'
          by_cases h4 : hTL (aL A) (stEr A) (qD A - 1) > 400
          · have es : spErase A = .inl 3 := by unfold spErase; rw [if_neg hq, if_neg (by omega), if_neg h40, if_pos h4]
            rw [decide_eq_true h4, es]
            refine zok_f (by decide) ?_
            unfold f7_erase_158
            have := b_tells (w := 3) (s := stEr A) hA.2.1.1 (hAcc hA hc) (hUn hA) hB9 (by decide) (fun h => by cases h) (((vV (qS A) (qT A) (qX A) (qC A)).length - 1 : Nat) : Int)
            rw [if_neg (by decide)] at this
            exact zok_cl this (fun x m hx => zok_some hx)
          · have es : spErase A = .inr (((vV (qS A) (qT A) (qX A) (qC A)).length - 1 : Nat), stEr A) := by unfold spErase; rw [if_neg hq, if_neg (by omega), if_neg h40, if_neg h4]
            rw [decide_eq_false h4, es]
            refine zok_t rfl ?_
            unfold f7_erase_158
            have := b_tells (w := 0) (s := stEr A) hA.2.1.1 (hAcc hA hc) (hUn hA) hB9 (by decide) (fun _ => hp9) (((vV (qS A) (qT A) (qX A) (qC A)).length - 1 : Nat) : Int)
            rw [if_pos rfl] at this
            exact zok_cl this (fun x m hx => zok_some hx)
      · refine zok_gd ⟨by omega, by rw [zl_m2.2.2.1]; omega⟩ (zok_gd ⟨by omega, by rw [zl_m2.2.2.2.2.2.2.2]; omega⟩ (zok_lt (zok_gl ⟨by omega, by omega⟩ ?_)))
        rw [zx_nat, (j2 333 (by decide) j).1, v3 j (by omega)]
        refine ih _ _ _ _ _ ⟨rfl, rfl, rfl, j + 1, by omega, by omega, j2.sI (fun q => q rfl), fun i hi => ?_⟩ (by show 400 - ((j : Int) + 1).toNat < 400 - (j : Int).toNat; omega)
        by_cases q : i = j
        · rw [zI_eq rfl q, q]
        · rw [zI_ni q]; exact j3 i (by omega)
end mAct3
