/-! THE REFERENCE'S ACTS, 6: undo, save, restore -/
section mAct6
variable {A : zA} {c : Int} {μ m m' : zM} {s : zSt}
/-- a row is copied onto the sessions' row -/
theorem n_undo (hA : wA c A) (hR : rM A μ) : zok (f7_undo μ) (fun r => ((aU A).length = 0 ∧ rM A r.2 ∧ zI r.2 292 0 = 1 ∧ zSm (fun c => c < 292 ∨ 338 < c) μ r.2) ∨ ((aU A).length ≠ 0 ∧ r.1 = (((aU A).length - 1 : Nat) : Int) ∧ rM (aUndo A) r.2 ∧ zI r.2 292 0 = 0 ∧ zSm (fun c => c < 292 ∨ 338 < c) μ r.2)) := by
  obtain ⟨hR1, h0⟩ := z0 hR
  unfold f7_undo
  refine zok_lt ?_
  have hu := hA.2.2.1
  have h7 : zI (zsI μ 292 0 0) 292 7 = (aU A).length := hR1.2.2.2.2.2.1.1
  have fr : zSm (fun c => c < 292 ∨ 338 < c) μ (zsI μ 292 0 0) := zSm.rf.sI (by omega)
  generalize zsI μ 292 0 0 = μ1 at *
  rw [h7]
  by_cases hz : (aU A).length = 0
  · refine zok_t (by omega) ?_
    unfold f7_undo_18
    rw [thr1 h0 (by decide), zcl_s]
    exact zok_f (by decide) (zok_some (Or.inl ⟨hz, hR1.z 1, zI_eq rfl rfl, fr.sI (by omega)⟩))
  · refine zok_f (by omega) ?_
    unfold f7_undo_18
    rw [thr0 h0, zcl_s, h7]
    refine zok_t rfl (zok_gl ⟨by omega, by omega⟩ (zok_lt ?_))
    rw [zI_eq rfl rfl]
    refine zok_gl ⟨by omega, by omega⟩ ?_
    rw [show 2256 * (((aU A).length : Int) - 1) = ((2256 * ((aU A).length - 1) : Nat) : Int) by omega]
    refine zok_cm (m_copies (a := 295) (p := 2256 * ((aU A).length - 1)) (d := 293) (q := 0) (by rw [zl_m.2.2.1]; omega) (by rw [zl_m.1]; decide) (by rw [zl_m.1, zl_m.2.2.1]; decide) (Or.inl (by decide))) (fun m2 hc => zok_some (Or.inr ⟨hz, ?_⟩))
    obtain ⟨s0, hs0⟩ : ∃ s0, (aU A)[0]? = some s0 := ⟨(aU A)[0]'(by omega), List.getElem?_eq_getElem (by omega)⟩
    have hst : aUndo A = (aN A, aL A, s0, (aU A).drop 1, aV A, aB A, aE A, aC A) := by unfold aUndo; rw [hs0]; rfl
    have hmem : s0 ∈ aU A := List.mem_of_getElem? hs0
    rw [hst]
    obtain ⟨r1, r2, r3, r4, r5, r6, r7⟩ := hR1
    have e : ∀ c, c ≠ 293 → c ≠ 292 → ∀ i, zI m2 c i = zI μ1 c i := fun c c1 c2 i => by rw [(hc.1 c c1 i).1, zI_nk c2]
    have eI : ∀ i, i ≠ 7 → zI m2 292 i = zI μ1 292 i := fun i hi => by rw [(hc.1 292 (by decide) i).1, zI_ni hi]
    have eR : ∀ i, zR m2 292 i = zR μ1 292 i := fun i => (hc.1 292 (by decide) i).2.2
    have e7 : zI m2 292 7 = (((aU A).length - 1 : Nat) : Int) := by rw [(hc.1 292 (by decide) 7).1, zI_eq rfl rfl]; omega
    refine ⟨e7, ⟨?_, ?_, ⟨(eI 10 (by decide)).trans r3.1, fun i hi => (e 313 (by decide) (by decide) i).trans (r3.2 i hi)⟩, ⟨(eI 11 (by decide)).trans r4.1, (eI 12 (by decide)).trans r4.2⟩, fun i hi => (e 298 (by decide) (by decide) i).trans (r5 i hi), ⟨?_, fun j t hj => ?_⟩, fun j hj => ?_⟩, (eI 0 (by decide)).trans h0, ?_⟩
    · exact rLb.keep r1 ((show zSm (fun c => c ≠ 292) μ1 _ from zSm.rf.sI (fun q => q rfl)).mono (fun c hc => by omega) |>.tr (hc.1.mono (fun c hc => by omega))) eR
    · have := r6.2 0 s0 hs0
      refine pMs_row (hu.2 s0 hmem).1 (fun i hi => ?_) this
      rw [hc.2.1 i hi, zI_nk (by decide)]; rfl
    · show zI m2 292 7 = (((aU A).drop 1).length : Int)
      rw [e7, List.length_drop]
    · have hj' : ((aU A).drop 1)[j]? = some t := hj
      rw [List.getElem?_drop] at hj'
      have hjl : 1 + j < (aU A).length := by
        rcases Nat.lt_or_ge (1 + j) (aU A).length with h | h
        · exact h
        · rw [List.getElem?_eq_none h] at hj'; cases hj'
      have := r6.2 (1 + j) t hj'
      show pMs m2 295 (2256 * (((aU A).drop 1).length - 1 - j)) t
      rw [List.length_drop, show (aU A).length - 1 - 1 - j = (aU A).length - 1 - (1 + j) by omega]
      exact pMs_keep (e 295 (by decide) (by decide)) this
    · rcases r7 j hj with ⟨g1, g2⟩ | ⟨g1, s, g2, g3⟩
      · exact Or.inl ⟨(e 297 (by decide) (by decide) j).trans g1, g2⟩
      · exact Or.inr ⟨(e 297 (by decide) (by decide) j).trans g1, s, g2, pMs_keep (e 296 (by decide) (by decide)) g3⟩
    · exact (fr.sI (by omega)).tr (hc.1.mono (fun c hc => by omega))
theorem nsl1 (j : Int) (h : 0 ≤ j ∧ j < 2) : f7_noSlot j μ = some (false, zsI μ 292 0 0) := by
  unfold f7_noSlot
  rw [show ∀ f : zM → Option (Bool × zM), zlt (zsI μ 292 0 0) f = f (zsI μ 292 0 0) from fun _ => rfl, win_eq, zco_s, decide_eq_true (by omega), if_neg (by decide)]
  unfold f7_noSlot_20
  rw [thr0 (zI_eq rfl rfl), zcl_s]
theorem nsl0 (j : Int) (h : ¬ (0 ≤ j ∧ j < 2)) : f7_noSlot j μ = some (true, zsI (zsI μ 292 0 0) 292 0 1) := by
  unfold f7_noSlot
  rw [show ∀ f : zM → Option (Bool × zM), zlt (zsI μ 292 0 0) f = f (zsI μ 292 0 0) from fun _ => rfl, win_eq, zco_s, decide_eq_false (by omega), if_pos (show zb false = 0 from rfl)]
  unfold f7_noSlot_20
  rw [thr1 (zI_eq rfl rfl) (by decide), zcl_s]
theorem n_save (hA : wA c A) (hR : rM A μ) (j : Int) : zok (f7_save j μ) (fun r => (¬ (0 ≤ j ∧ j < 2) ∧ rM A r.2 ∧ zI r.2 292 0 = 1 ∧ zSm (fun c => c < 292 ∨ 338 < c) μ r.2) ∨ (0 ≤ j ∧ j < 2 ∧ r.1 = ((qD A : Nat) : Int) ∧ rM (aSave A j.toNat) r.2 ∧ zI r.2 292 0 = 0 ∧ zSm (fun c => c < 292 ∨ 338 < c) μ r.2)) := by
  obtain ⟨hR1, h0⟩ := z0 hR
  have fr : zSm (fun c => c < 292 ∨ 338 < c) μ (zsI μ 292 0 0) := zSm.rf.sI (by omega)
  unfold f7_save
  by_cases hj : 0 ≤ j ∧ j < 2
  · rw [nsl1 j hj, zcl_s]
    generalize zsI μ 292 0 0 = μ1 at *
    obtain ⟨i, rfl⟩ : ∃ i : Nat, j = i := ⟨j.toNat, by omega⟩
    refine zok_t rfl (zok_gl ⟨by omega, by omega⟩ ?_)
    rw [show 2256 * ((i : Nat) : Int) = ((2256 * i : Nat) : Int) by omega]
    refine zok_cm (m_copies (a := 293) (p := 0) (d := 296) (q := 2256 * i) (by rw [zl_m.1]; decide) (by rw [zl_m.2.2.2.1]; omega) (by rw [zl_m.1, zl_m.2.2.2.1]; decide) (Or.inl (by decide))) (fun m2 hc => zok_gd ⟨⟨by omega, by rw [zl_m.2.2.2.2.1]; omega⟩, Or.inr rfl⟩ (zok_lt (zok_gd zin0 (zok_some (Or.inr ⟨hj.1, hj.2, ?_⟩)))))
    obtain ⟨r1, r2, r3, r4, r5, r6, r7⟩ := hR1
    have e : ∀ c, c ≠ 296 → c ≠ 297 → ∀ i', zI (zsI m2 297 i 1) c i' = zI μ1 c i' := fun c c1 c2 i' => by rw [zI_nk c2, (hc.1 c c1 i').1]
    have eR : ∀ i', zR (zsI m2 297 i 1) 292 i' = zR μ1 292 i' := fun i' => (hc.1 292 (by decide) i').2.2
    have fs : zSm (fun c => c ≠ 296 ∧ c ≠ 297) μ1 (zsI m2 297 i 1) := (hc.1.mono (fun c h => h.1)).sI (fun q => q.2 rfl)
    rw [show zx ((i : Nat) : Int) = i from rfl]
    refine ⟨(e 293 (by decide) (by decide) 0).trans r2.1, ⟨rLb.keep r1 (fs.mono (fun c hc => by omega)) eR, pMs_keep (e 293 (by decide) (by decide)) r2, ⟨(e 292 (by decide) (by decide) 10).trans r3.1, fun y hy => (e 313 (by decide) (by decide) y).trans (r3.2 y hy)⟩, ⟨(e 292 (by decide) (by decide) 11).trans r4.1, (e 292 (by decide) (by decide) 12).trans r4.2⟩, fun y hy => (e 298 (by decide) (by decide) y).trans (r5 y hy), ⟨(e 292 (by decide) (by decide) 7).trans r6.1, fun y t hy => pMs_keep (e 295 (by decide) (by decide)) (r6.2 y t hy)⟩, fun y hy => ?_⟩, (e 292 (by decide) (by decide) 0).trans h0, fr.tr (fs.mono (fun c hc => by omega))⟩
    have eV : aV (aSave A ((i : Int)).toNat) y = if y = i then some (aS A) else aV A y := rfl
    by_cases q : y = i
    · refine Or.inr ⟨zI_eq rfl q, aS A, by rw [eV, if_pos q], ?_⟩
      refine pMs_row hA.2.1.1 (fun x hx => ?_) r2
      rw [zI_nk (by decide), q, hc.2.1 x hx]
    · have e97 : zI (zsI m2 297 i 1) 297 y = zI μ1 297 y := by rw [zI_ni q, (hc.1 297 (by decide) y).1]
      rcases r7 y hy with ⟨g1, g2⟩ | ⟨g1, s, g2, g3⟩
      · exact Or.inl ⟨e97.trans g1, by rw [eV, if_neg q]; exact g2⟩
      · refine Or.inr ⟨e97.trans g1, s, by rw [eV, if_neg q]; exact g2, pMs_row (hA.2.2.2.1 y s g2).1 (fun x hx => ?_) g3⟩
        rw [zI_nk (by decide), hc.2.2.1 _ (by omega)]
  · rw [nsl0 j hj, zcl_s]
    exact zok_f (by decide) (zok_some (Or.inl ⟨hj, hR1.z 1, zI_eq rfl rfl, fr.sI (by omega)⟩))
theorem n_restore (hA : wA c A) (hR : rM A μ) (j : Int) : zok (f7_restore j μ) (fun r => (¬ (0 ≤ j ∧ j < 2) ∧ rM A r.2 ∧ zI r.2 292 0 = 1 ∧ zSm (fun c => c < 292 ∨ 338 < c) μ r.2) ∨ (0 ≤ j ∧ j < 2 ∧ aV A j.toNat = none ∧ rM A r.2 ∧ zI r.2 292 0 = 2 ∧ zSm (fun c => c < 292 ∨ 338 < c) μ r.2) ∨ (0 ≤ j ∧ j < 2 ∧ ∃ s, aV A j.toNat = some s ∧ r.1 = ((tD s : Nat) : Int) ∧ rM (aRest A s) r.2 ∧ zI r.2 292 0 = 0 ∧ zSm (fun c => c < 292 ∨ 338 < c) μ r.2)) := by
  obtain ⟨hR1, h0⟩ := z0 hR
  have fr : zSm (fun c => c < 292 ∨ 338 < c) μ (zsI μ 292 0 0) := zSm.rf.sI (by omega)
  unfold f7_restore
  by_cases hj : 0 ≤ j ∧ j < 2
  · rw [nsl1 j hj, zcl_s]
    generalize zsI μ 292 0 0 = μ1 at *
    obtain ⟨i, rfl⟩ : ∃ i : Nat, j = i := ⟨j.toNat, by omega⟩
    refine zok_t rfl (zok_gd ⟨by omega, by rw [zl_m.2.2.2.2.1]; omega⟩ ?_)
    rw [show zx ((i : Nat) : Int) = i from rfl]
    have h7 := hR1.2.2.2.2.2.2 i (by omega)
    rcases h7 with ⟨g1, g2⟩ | ⟨g1, s, g2, g3⟩
    · rw [g1]
      refine zok_t rfl ?_
      unfold f7_restore_23
      rw [thr1 h0 (by decide), zcl_s]
      exact zok_f (by decide) (zok_some (Or.inr (Or.inl ⟨hj.1, hj.2, g2, hR1.z 2, zI_eq rfl rfl, fr.sI (by omega)⟩)))
    · rw [g1]
      refine zok_f (by decide) ?_
      unfold f7_restore_23
      rw [thr0 h0, zcl_s]
      refine zok_t rfl (zok_gl ⟨by omega, by omega⟩ ?_)
      rw [show 2256 * ((i : Nat) : Int) = ((2256 * i : Nat) : Int) by omega]
      refine zok_cm (m_copies (a := 296) (p := 2256 * i) (d := 293) (q := 0) (by rw [zl_m.2.2.2.1]; omega) (by rw [zl_m.1]; decide) (by rw [zl_m.1, zl_m.2.2.2.1]; decide) (Or.inl (by decide))) (fun m2 hc => zok_lt (zok_gd zin0 (zok_some (Or.inr (Or.inr ⟨hj.1, hj.2, s, g2, ?_⟩)))))
      have hws := (hA.2.2.2.1 i s g2).1
      obtain ⟨r1, r2, r3, r4, r5, r6, r7⟩ := hR1
      have e : ∀ c, c ≠ 293 → c ≠ 292 → ∀ i', zI (zsI m2 292 7 0) c i' = zI μ1 c i' := fun c c1 c2 i' => by rw [zI_nk c2, (hc.1 c c1 i').1]
      have eI : ∀ i', i' ≠ 7 → zI (zsI m2 292 7 0) 292 i' = zI μ1 292 i' := fun i' hi => by rw [zI_ni hi, (hc.1 292 (by decide) i').1]
      have eR : ∀ i', zR (zsI m2 292 7 0) 292 i' = zR μ1 292 i' := fun i' => (hc.1 292 (by decide) i').2.2
      have fs : zSm (fun c => c ≠ 293 ∧ c ≠ 292) μ1 (zsI m2 292 7 0) := (hc.1.mono (fun c h => h.1)).sI (fun q => q.2 rfl)
      have hp : pMs (zsI m2 292 7 0) 293 0 s := pMs_row hws (fun x hx => by rw [zI_nk (by decide), hc.2.1 x hx]) g3
      refine ⟨hp.1, ⟨rLb.keep r1 (fs.mono (fun c hc => by omega)) eR, hp, ⟨(eI 10 (by decide)).trans r3.1, fun y hy => (e 313 (by decide) (by decide) y).trans (r3.2 y hy)⟩, ⟨(eI 11 (by decide)).trans r4.1, (eI 12 (by decide)).trans r4.2⟩, fun y hy => (e 298 (by decide) (by decide) y).trans (r5 y hy), ⟨zI_eq rfl rfl, fun y t hy => by cases hy⟩, fun y hy => ?_⟩, (eI 0 (by decide)).trans h0, fr.tr (fs.mono (fun c hc => by omega))⟩
      rcases r7 y hy with ⟨g1, g2⟩ | ⟨g1, s', g2, g3⟩
      · exact Or.inl ⟨(e 297 (by decide) (by decide) y).trans g1, g2⟩
      · exact Or.inr ⟨(e 297 (by decide) (by decide) y).trans g1, s', g2, pMs_keep (e 296 (by decide) (by decide)) g3⟩
  · rw [nsl0 j hj, zcl_s]
    exact zok_f (by decide) (zok_some (Or.inl ⟨hj, hR1.z 1, zI_eq rfl rfl, fr.sI (by omega)⟩))
/-! the state stays well -/
theorem wA.undo (hA : wA c A) : wA c (aUndo A) := by
  obtain ⟨h1, h2, h3, h4, h5, h6⟩ := hA
  refine ⟨h1, ?_, ⟨?_, fun s hs => h3.2 s (List.mem_of_mem_drop hs)⟩, h4, h5, h6⟩
  · show wLv (aN A) (aL A) (((aU A)[0]?).getD (aS A))
    cases h : (aU A)[0]? with
    | none => exact h2
    | some t => exact h3.2 t (List.mem_of_getElem? h)
  · show ((aU A).drop 1).length ≤ 8
    rw [List.length_drop]
    have := h3.1
    omega
theorem wA.save (hA : wA c A) (j : Nat) : wA c (aSave A j) := by
  obtain ⟨h1, h2, h3, h4, h5, h6⟩ := hA
  refine ⟨h1, h2, h3, fun i s hs => ?_, h5, h6⟩
  have hs' : (if i = j then some (aS A) else aV A i) = some s := hs
  by_cases q : i = j
  · rw [if_pos q] at hs'
    rw [← Option.some.inj hs']; exact h2
  · rw [if_neg q] at hs'
    exact h4 i s hs'
theorem wA.rest (hA : wA c A) {j : Nat} (hs : aV A j = some s) : wA c (aRest A s) := by
  obtain ⟨h1, h2, h3, h4, h5, h6⟩ := hA
  exact ⟨h1, h4 j s hs, ⟨Nat.zero_le _, fun s hs => by cases hs⟩, h4, h5, h6⟩
end mAct6
