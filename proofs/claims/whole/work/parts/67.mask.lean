/-! THE REFERENCE: what is asked of it -/
theorem cnt_s (P : Nat → Bool) (n : Nat) : cnt P (n + 1) = cnt P n + if P n = true then 1 else 0 := rfl
theorem m_bits {x : Int} (h : ∀ i, 10 ≤ i → i < 32 → mbit x i = false) : zok (f7_bits x) (fun r => r = (cnt (fun i => mbit x i) 10 : Nat)) := by
  unfold f7_bits
  refine zok_x2 (fun (x1 x2 : Int) => ∃ j : Nat, x2 = j ∧ j ≤ 12 ∧ x1 = (cnt (fun i => mbit x i) j : Nat)) (fun _ x2 => 12 - x2.toNat) (fun kk x1 x2 hx ih => ?_) zFu 0 0 ⟨0, rfl, by omega, rfl⟩ (by show 12 - 0 < 100000; omega)
  obtain ⟨j, rfl, h1, rfl⟩ := hx
  have hc := cnt_le (fun i => mbit x i) j
  unfold f7_bits_4
  refine zok_if (fun h9 => zok_some ?_) (fun h9 => zok_lt (zok_lt ?_))
  · rw [show j = 12 by omega]
    have e1 : cnt (fun i => mbit x i) 12 = cnt (fun i => mbit x i) 11 + if mbit x 11 = true then 1 else 0 := rfl
    have e2 : cnt (fun i => mbit x i) 11 = cnt (fun i => mbit x i) 10 + if mbit x 10 = true then 1 else 0 := rfl
    rw [e1, e2, h 10 (by decide) (by decide), h 11 (by decide) (by decide)]; rfl
  · rw [mtest (by omega) (by omega), show ((j : Int)).toNat = j from rfl]
    have e : cnt (fun i => mbit x i) (j + 1) = cnt (fun i => mbit x i) j + if mbit x j = true then 1 else 0 := rfl
    cases hb : mbit x j with
    | true =>
      rw [hb] at e
      exact zok_gl ⟨by rw [if_pos rfl]; omega, by rw [if_pos rfl]; omega⟩ (zok_gl ⟨by omega, by omega⟩ (ih _ _ ⟨j + 1, by omega, by omega, by rw [if_pos rfl, e, if_pos rfl]; rfl⟩ (by show 12 - ((j : Int) + 1).toNat < 12 - (j : Int).toNat; omega)))
    | false =>
      rw [hb] at e
      exact zok_gl ⟨by rw [if_neg (by decide)]; omega, by rw [if_neg (by decide)]; omega⟩ (zok_gl ⟨by omega, by omega⟩ (ih _ _ ⟨j + 1, by omega, by omega, by rw [if_neg (by decide), e, if_neg (by decide)]; rfl⟩ (by show 12 - ((j : Int) + 1).toNat < 12 - (j : Int).toNat; omega)))
section mAsk
variable {μ0 m : zM} {b k : Nat} {S : zSn} {ty : Nat → Bool} {sa : Int} {ln : Nat → Nat}
theorem m_shownOf (hC : mCx m b k S ty sa) (hV : mShown S ty m) (f : Nat) : zok (f7_shownOf (f : Int) m) (fun r => r = (vCn S ty f : Nat)) := by
  have hC' := hC
  obtain ⟨c1, c2, c3, c4, c5, c6, c7, c8⟩ := hC'
  obtain ⟨b1, b2, b3, b4, b5, b6, b7, b8, b9, b10, b11, b12, b13⟩ := okB_f c1
  have hn := c8.1
  unfold f7_shownOf
  refine zok_x2 (fun (x2 x3 : Int) => ∃ j : Nat, x3 = j ∧ j ≤ sN S ∧ x2 = (cnt (fun o => vSh S ty o && decide (sF S o = f)) j : Nat)) (fun _ x3 => 60 - x3.toNat) (fun kk x2 x3 hx ih => ?_) zFu 0 0 ⟨0, rfl, by omega, rfl⟩ (by show 60 - 0 < 100000; omega)
  obtain ⟨j, rfl, h1, rfl⟩ := hx
  have hc := cnt_le (fun o => vSh S ty o && decide (sF S o = f)) j
  have e := cnt_s (fun o => vSh S ty o && decide (sF S o = f)) j
  unfold f7_shownOf_4
  refine zok_co (m_many hC) (fun r hr => ?_)
  subst hr
  refine zok_if (fun h9 => zok_some ?_) (fun h9 => zok_gd ⟨by omega, by rw [zl_m.2.2.2.2.2.2.2.2.1]; omega⟩ ?_)
  · rw [show j = sN S by omega]; rfl
  · have hj : j < sN S := by omega
    have no : ¬ (vSh S ty j = true ∧ sF S j = f) → zok (f7_shownOf_43 (f : Int) m kk (j : Int) ((cnt (fun o => vSh S ty o && decide (sF S o = f)) j : Nat) : Int)) (fun r => r = (vCn S ty f : Nat)) := by
      intro hno
      unfold f7_shownOf_43
      refine zok_gl ⟨by omega, by omega⟩ (zok_gl ⟨by omega, by omega⟩ (ih _ _ ⟨j + 1, by omega, by omega, ?_⟩ (by show 60 - ((j : Int) + 1).toNat < 60 - (j : Int).toNat; omega)))
      rw [e, if_neg (by simpa using hno)]; omega
    rw [zx_nat, (hV.1 j hj).1]
    cases hs : vSh S ty j with
    | false => exact zok_t rfl (no (by rw [hs]; simp))
    | true =>
      refine zok_f (by decide) (zok_co (m_of hC (show j < 60 by omega)) (fun r hr => ?_))
      subst hr
      rw [c3, b6, zx_nat, (c7.2.2.2.1 j hj).1]
      refine zok_gd ⟨by omega, by omega⟩ (zok_if (fun h8 => ?_) (fun h8 => no (fun q => h8 q.2)))
      refine zok_gl ⟨by omega, by omega⟩ (zok_gl ⟨by omega, by omega⟩ (ih _ _ ⟨j + 1, by omega, by omega, ?_⟩ (by show 60 - ((j : Int) + 1).toNat < 60 - (j : Int).toNat; omega)))
      rw [e, if_pos (by simp [hs, h8])]; omega
theorem m_allOf (hC : mCx m b k S ty sa) (f : Nat) : zok (f7_allOf (f : Int) m) (fun r => r = (cnt (fun o => decide (sF S o = f)) (sN S) : Nat)) := by
  have hC' := hC
  obtain ⟨c1, c2, c3, c4, c5, c6, c7, c8⟩ := hC'
  obtain ⟨b1, b2, b3, b4, b5, b6, b7, b8, b9, b10, b11, b12, b13⟩ := okB_f c1
  have hn := c8.1
  unfold f7_allOf
  refine zok_x2 (fun (x2 x3 : Int) => ∃ j : Nat, x3 = j ∧ j ≤ sN S ∧ x2 = (cnt (fun o => decide (sF S o = f)) j : Nat)) (fun _ x3 => 60 - x3.toNat) (fun kk x2 x3 hx ih => ?_) zFu 0 0 ⟨0, rfl, by omega, rfl⟩ (by show 60 - 0 < 100000; omega)
  obtain ⟨j, rfl, h1, rfl⟩ := hx
  have hc := cnt_le (fun o => decide (sF S o = f)) j
  have e := cnt_s (fun o => decide (sF S o = f)) j
  unfold f7_allOf_4
  refine zok_co (m_many hC) (fun r hr => ?_)
  subst hr
  refine zok_if (fun h9 => zok_some ?_) (fun h9 => zok_co (m_of hC (show j < 60 by omega)) (fun r hr => ?_))
  · rw [show j = sN S by omega]
  · subst hr
    rw [c3, b6, zx_nat, (c7.2.2.2.1 j (by omega)).1]
    refine zok_gd ⟨by omega, by omega⟩ (zok_if (fun h8 => ?_) (fun h8 => ?_))
    · refine zok_gl ⟨by omega, by omega⟩ (zok_gl ⟨by omega, by omega⟩ (ih _ _ ⟨j + 1, by omega, by omega, ?_⟩ (by show 60 - ((j : Int) + 1).toNat < 60 - (j : Int).toNat; omega)))
      rw [e, if_pos (by simp [h8])]; omega
    · refine zok_gl ⟨by omega, by omega⟩ (zok_gl ⟨by omega, by omega⟩ (ih _ _ ⟨j + 1, by omega, by omega, ?_⟩ (by show 60 - ((j : Int) + 1).toNat < 60 - (j : Int).toNat; omega)))
      rw [e, if_neg (by simpa using h8)]; omega
theorem m_whyOf (hC : mCx m b k S ty sa) (hV : mShown S ty m) {f : Nat} (hf : f < 10) : zok (f7_whyOf (f : Int) m) (fun r => r = vWhy S ty f) := by
  have hC' := hC
  obtain ⟨c1, c2, c3, c4, c5, c6, c7, c8⟩ := hC'
  obtain ⟨b1, b2, b3, b4, b5, b6, b7, b8, b9, b10, b11, b12, b13⟩ := okB_f c1
  have hn := c8.1
  have hW := c8
  unfold f7_whyOf
  refine zok_co (m_has _ (f : Int) (by omega) (by omega)) (fun r hr => ?_)
  rw [show ((f : Int)).toNat = f from rfl, hV.2.2.2 f (by omega)] at hr
  subst hr
  cases hlv : vLv S ty f with
  | true =>
    refine zok_f (by decide) (zok_some ?_)
    unfold vWhy; rw [if_pos hlv]
  | false =>
    refine zok_t rfl (zok_co (m_allOf hC f) (fun r hr => ?_))
    subst hr
    have ew : vWhy S ty f = if cnt (fun o => decide (sF S o = f)) (sN S) = 0 then 1 else if 0 < cnt (wyB S ty f) (sN S) then 2 else if 0 < cnt (wyA S ty f) (sN S) then 3 else 4 := by unfold vWhy; rw [if_neg (by rw [hlv]; decide)]
    refine zok_if (fun h0 => zok_some ?_) (fun h0 => ?_)
    · rw [ew, if_pos (by omega)]
    · rw [if_neg (by omega)] at ew
      refine zok_x2 (fun (x2 x3 : Int) => ∃ j : Nat, x3 = j ∧ j ≤ sN S ∧ x2 = if 0 < cnt (wyB S ty f) j then 2 else if 0 < cnt (wyA S ty f) j then 3 else 4) (fun _ x3 => 60 - x3.toNat) (fun kk x2 x3 hx ih => ?_) zFu 4 0 ⟨0, rfl, by omega, rfl⟩ (by show 60 - 0 < 100000; omega)
      obtain ⟨j, rfl, h1, rfl⟩ := hx
      have eA := cnt_s (wyA S ty f) j
      have eB := cnt_s (wyB S ty f) j
      have hx2 : ∀ j, (if 0 < cnt (wyB S ty f) j then (2 : Int) else if 0 < cnt (wyA S ty f) j then 3 else 4) = 2 ∨ (if 0 < cnt (wyB S ty f) j then (2 : Int) else if 0 < cnt (wyA S ty f) j then 3 else 4) = 3 ∨ (if 0 < cnt (wyB S ty f) j then (2 : Int) else if 0 < cnt (wyA S ty f) j then 3 else 4) = 4 := fun j => by
        split
        · exact Or.inl rfl
        · split
          · exact Or.inr (Or.inl rfl)
          · exact Or.inr (Or.inr rfl)
      unfold f7_whyOf_27
      refine zok_co (m_many hC) (fun r hr => ?_)
      subst hr
      refine zok_if (fun h9 => zok_some ?_) (fun h9 => ?_)
      · rw [ew, show j = sN S by omega]
      · have hj : j < sN S := by omega
        have hxo := c7.2.2.2.1 j hj
        refine zok_co (m_of hC (show j < 60 by omega)) (fun r hr => ?_)
        subst hr
        rw [c3, b9, zx_nat, hxo.2.2.2.1]
        refine zok_gd ⟨by omega, by omega⟩ (zok_lt (zok_co (m_of hC (show j < 60 by omega)) (fun r hr => ?_)))
        subst hr
        rw [b6, zx_nat, hxo.1]
        refine zok_gd ⟨by omega, by omega⟩ ?_
        have nx : ∀ x2 : Int, x2 = (if 0 < cnt (wyB S ty f) (j + 1) then 2 else if 0 < cnt (wyA S ty f) (j + 1) then 3 else 4) → zok (zgl ((j : Int) + 1) (fun v => kk x2 v)) (fun r => r = vWhy S ty f) := fun x2 h => zok_gl ⟨by omega, by omega⟩ (ih _ _ ⟨j + 1, by omega, by omega, h⟩ (by show 60 - ((j : Int) + 1).toNat < 60 - (j : Int).toNat; omega))
        have noA : wyA S ty f j = false → (if 0 < cnt (wyB S ty f) j then (2 : Int) else if 0 < cnt (wyA S ty f) j then 3 else 4) = (if 0 < cnt (wyB S ty f) (j + 1) then 2 else if 0 < cnt (wyA S ty f) (j + 1) then 3 else 4) := fun hA => by
          have hB : wyB S ty f j = false := by unfold wyB; rw [hA]; rfl
          rw [eA, eB, hA, hB, if_neg (show ¬ false = true by decide), Nat.add_zero, Nat.add_zero]
        refine zok_if (fun h8 => ?_) (fun h8 => nx _ (noA (by unfold wyA; rw [decide_eq_false h8]; rfl)))
        rcases hW.2.2.2.2.1 j hj with h | ⟨q, p1, p2, p3, p4⟩
        · exfalso
          have hs : vSh S ty j = true := (vSh_iff hW ty hj).mpr (Or.inl h.1)
          have : vLv S ty f = true := decide_eq_true ⟨j, hj, hs, h8⟩
          rw [hlv] at this; cases this
        · rw [p1]
          have hq : (sP S j).toNat = q := by omega
          have eAq : wyA S ty f j = vSh S ty q := by unfold wyA; rw [decide_eq_true h8, decide_eq_false (show ¬ sP S j = -1 by omega), hq]; rfl
          refine zok_gd ⟨by omega, by rw [zl_m.2.2.2.2.2.2.2.2.1]; omega⟩ ?_
          rw [zx_nat, (hV.1 q (by omega)).1]
          cases hs : vSh S ty q with
          | false => exact zok_t rfl (nx _ (noA (by rw [eAq, hs])))
          | true =>
            refine zok_f (by decide) (zok_co (m_of hC (show q < 60 by omega)) (fun r hr => ?_))
            subst hr
            have hxq := c7.2.2.2.1 q (by omega)
            obtain ⟨f1, f2, -⟩ := hW.2.2.2.1 q (by omega)
            rw [zx_nat, hxq.1]
            refine zok_gd ⟨by omega, by omega⟩ (zok_co (m_isTyped hC (sF S q) f1 f2) (fun r hr => ?_))
            subst hr
            rw [hs] at eAq
            have eBq : wyB S ty f j = ty (sF S q).toNat := by unfold wyB; rw [eAq, hq]; rfl
            rw [eAq, if_pos rfl] at eA
            cases hT : ty (sF S q).toNat with
            | false =>
              refine zok_t rfl ?_
              unfold f7_whyOf_107
              refine zok_lt (nx _ ?_)
              rw [eBq, hT, if_neg (by decide)] at eB
              have eB' : cnt (wyB S ty f) (j + 1) = cnt (wyB S ty f) j := eB
              rw [eB', eA]
              by_cases hb : 0 < cnt (wyB S ty f) j
              · rw [if_pos hb, if_pos hb]; rfl
              · rw [if_neg hb, if_neg hb, if_pos (show 0 < cnt (wyA S ty f) j + 1 by omega)]
                split <;> rfl
            | true =>
              refine zok_f (by decide) ?_
              unfold f7_whyOf_107
              refine zok_lt (nx _ ?_)
              rw [eBq, hT, if_pos rfl] at eB
              rw [eB, if_pos (show 0 < cnt (wyB S ty f) j + 1 by omega)]
              have := hx2 j
              omega
theorem m_yl (hC : mCx m b k S ty sa) (hV : mShown S ty m) : zok (zfx f7_yielded_19 (fun _ _ _ => none) zFu 0 0 m) (fun r => r = (((vYl S ty : Nat) : Int), m)) := by
  have hC' := hC
  obtain ⟨c1, c2, c3, c4, c5, c6, c7, c8⟩ := hC'
  obtain ⟨b1, b2, b3, b4, b5, b6, b7, b8, b9, b10, b11, b12, b13⟩ := okB_f c1
  have hn := c8.1
  refine zok_x3 (fun (x1 x2 : Int) m' => m' = m ∧ ∃ j : Nat, x2 = j ∧ j ≤ sN S ∧ x1 = (cnt (fun o => vSh S ty o && decide (sD S o = 1) && !decide (vSd S ty (sF S o).toNat = o)) j : Nat)) (fun _ x2 _ => 60 - x2.toNat) (fun kk x1 x2 m' hx ih => ?_) zFu 0 0 m ⟨rfl, 0, rfl, by omega, rfl⟩ (by show 60 - 0 < 100000; omega)
  obtain ⟨rfl, j, rfl, h1, rfl⟩ := hx
  have hc := cnt_le (fun o => vSh S ty o && decide (sD S o = 1) && !decide (vSd S ty (sF S o).toNat = o)) j
  have e := cnt_s (fun o => vSh S ty o && decide (sD S o = 1) && !decide (vSd S ty (sF S o).toNat = o)) j
  unfold f7_yielded_19
  refine zok_co (m_many hC) (fun r hr => ?_)
  subst hr
  refine zok_if (fun h9 => zok_some ?_) (fun h9 => zok_gd ⟨by omega, by rw [zl_m.2.2.2.2.2.2.2.2.1]; omega⟩ ?_)
  · rw [show j = sN S by omega]; rfl
  · have hj : j < sN S := by omega
    have no : ¬ (vSh S ty j && decide (sD S j = 1) && !decide (vSd S ty (sF S j).toNat = j)) = true → zok (f7_yielded_66 kk (j : Int) ((cnt (fun o => vSh S ty o && decide (sD S o = 1) && !decide (vSd S ty (sF S o).toNat = o)) j : Nat) : Int) m') (fun r => r = (((vYl S ty : Nat) : Int), m')) := by
      intro hno
      unfold f7_yielded_66
      refine zok_gl ⟨by omega, by omega⟩ (zok_gl ⟨by omega, by omega⟩ (ih _ _ _ ⟨rfl, j + 1, by omega, by omega, ?_⟩ (by show 60 - ((j : Int) + 1).toNat < 60 - (j : Int).toNat; omega)))
      rw [e, if_neg hno]; omega
    rw [zx_nat, (hV.1 j hj).1]
    cases hs : vSh S ty j with
    | false => exact zok_t rfl (no (by rw [hs]; simp))
    | true =>
      refine zok_f (by decide) (zok_co (m_of hC (show j < 60 by omega)) (fun r hr => ?_))
      subst hr
      rw [c3, b8, zx_nat, (c7.2.2.2.1 j hj).2.2.1]
      refine zok_gd ⟨by omega, by omega⟩ (zok_if (fun h8 => no (by rw [h8]; simp)) (fun h8 => zok_gd ⟨by omega, by rw [zl_m.2.2.2.2.2.2.2.2.2]; omega⟩ ?_))
      have hd1 : sD S j = 1 := (c8.2.2.2.1 j hj).2.2.2.2.1.resolve_left h8
      rw [(hV.1 j hj).2]
      by_cases hd : vSd S ty (sF S j).toNat = j
      · rw [decide_eq_true hd]
        exact zok_f (by decide) (no (by rw [decide_eq_true hd]; simp))
      · rw [decide_eq_false hd]
        refine zok_t rfl (zok_gl ⟨by omega, by omega⟩ (zok_gl ⟨by omega, by omega⟩ (ih _ _ _ ⟨rfl, j + 1, by omega, by omega, ?_⟩ (by show 60 - ((j : Int) + 1).toNat < 60 - (j : Int).toNat; omega))))
        rw [e, if_pos (by rw [hs, hd1, decide_eq_false hd]; rfl)]; omega
theorem m_mi (hC : mCx m b k S ty sa) (hV : mShown S ty m) : zok (zfx f7_mirrored_19 (fun _ _ _ => none) zFu 0 0 m) (fun r => r = (((vMi S ty : Nat) : Int), m)) := by
  refine zok_x3 (fun (x1 x2 : Int) m' => m' = m ∧ ∃ j : Nat, x2 = j ∧ j ≤ 10 ∧ x1 = (cnt (fun f => decide (2 ≤ vCn S ty f)) j : Nat)) (fun _ x2 _ => 10 - x2.toNat) (fun kk x1 x2 m' hx ih => ?_) zFu 0 0 m ⟨rfl, 0, rfl, by omega, rfl⟩ (by show 10 - 0 < 100000; omega)
  obtain ⟨rfl, j, rfl, h1, rfl⟩ := hx
  have hc := cnt_le (fun f => decide (2 ≤ vCn S ty f)) j
  have e := cnt_s (fun f => decide (2 ≤ vCn S ty f)) j
  unfold f7_mirrored_19
  refine zok_if (fun h9 => zok_some ?_) (fun h9 => zok_co (m_shownOf hC hV j) (fun r hr => ?_))
  · rw [show j = 10 by omega]; rfl
  · subst hr
    refine zok_if (fun h8 => ?_) (fun h8 => ?_)
    · refine zok_gl ⟨by omega, by omega⟩ (zok_gl ⟨by omega, by omega⟩ (ih _ _ _ ⟨rfl, j + 1, by omega, by omega, ?_⟩ (by show 10 - ((j : Int) + 1).toNat < 10 - (j : Int).toNat; omega)))
      rw [e, if_neg (by simp; omega)]; omega
    · refine zok_gl ⟨by omega, by omega⟩ (zok_gl ⟨by omega, by omega⟩ (ih _ _ _ ⟨rfl, j + 1, by omega, by omega, ?_⟩ (by show 10 - ((j : Int) + 1).toNat < 10 - (j : Int).toNat; omega)))
      rw [e, if_pos (by simp; omega)]; omega
theorem mJ.sh (h : mJ S ty ln μ0 m) (hV : mShown S ty μ0) : mShown S ty m := by
  obtain ⟨a1, a2, a3, a4⟩ := hV
  refine ⟨fun o ho => ?_, fun f hf => ?_, ?_, fun i hi => ?_⟩
  · rw [(h.1 329 (by decide) o).1, (h.1 330 (by decide) o).1]; exact a1 o ho
  · rw [(h.1 331 (by decide) f).1]; exact a2 f hf
  · rw [(h.1 292 (by decide) 27).1]; exact a3
  · rw [(h.1 292 (by decide) 27).1]; exact a4 i hi
theorem vLg_bd (S : zSn) (ty : Nat → Bool) (ln : Nat → Nat) : ∀ k, vLg S ty ln k = -1 ∨ ∃ g : Nat, vLg S ty ln k = g ∧ g < k := by
  intro k
  induction k with
  | zero => exact Or.inl rfl
  | succ k ih =>
    show (if vLv S ty k = true ∧ (vLg S ty ln k = -1 ∨ vL S ty ln (vLg S ty ln k).toNat < vL S ty ln k) then (k : Int) else vLg S ty ln k) = -1 ∨ ∃ g : Nat, (if vLv S ty k = true ∧ (vLg S ty ln k = -1 ∨ vL S ty ln (vLg S ty ln k).toNat < vL S ty ln k) then (k : Int) else vLg S ty ln k) = g ∧ g < k + 1
    split
    · exact Or.inr ⟨k, rfl, by omega⟩
    · rcases ih with h | ⟨g, h1, h2⟩
      · exact Or.inl h
      · exact Or.inr ⟨g, h1, by omega⟩
theorem m_lg (hC : mCx μ0 b k S ty sa) (hV : mShown S ty μ0) (hL : ∀ f, f < 10 → ty f = true → zI μ0 293 (sa.toNat + 3 + f) = ln f) (hl : ∀ f, f < 10 → ln f ≤ 400) (hTX : vTL S ty ln ≤ 400) (hMe : ∀ f, f < 10 → zI μ0 332 f = -1 ∨ zI μ0 332 f = mL S ty ln f) : zok (zfx f7_longest_19 (fun _ _ _ => none) zFu (-1) 0 μ0) (fun r => r.1 = vLg S ty ln 10 ∧ zSm (fun c => c ≠ 332) μ0 r.2) := by
  have hW := hC.2.2.2.2.2.2.2
  refine zok_x3 (fun (x1 x2 : Int) m' => mJ S ty ln μ0 m' ∧ ∃ j : Nat, x2 = j ∧ j ≤ 10 ∧ x1 = vLg S ty ln j) (fun _ x2 _ => 10 - x2.toNat) (fun kk x1 x2 m' hx ih => ?_) zFu (-1) 0 μ0 ⟨⟨zSm.rf, hMe⟩, 0, rfl, by omega, rfl⟩ (by show 10 - 0 < 100000; omega)
  obtain ⟨hJ, j, rfl, h1, rfl⟩ := hx
  have e : vLg S ty ln (j + 1) = if vLv S ty j = true ∧ (vLg S ty ln j = -1 ∨ vL S ty ln (vLg S ty ln j).toNat < vL S ty ln j) then (j : Int) else vLg S ty ln j := rfl
  unfold f7_longest_19
  refine zok_if (fun h9 => zok_some ⟨?_, hJ.1⟩) (fun h9 => zok_co (m_has _ (j : Int) (by omega) (by omega)) (fun r hr => ?_))
  · show vLg S ty ln j = _
    rw [show j = 10 by omega]
  · rw [show ((j : Int)).toNat = j from rfl, (hJ.sh hV).2.2.2 j (by omega)] at hr
    subst hr
    have nx : ∀ (x : Int) (m' : zM), mJ S ty ln μ0 m' → x = vLg S ty ln (j + 1) → zok (zgl ((j : Int) + 1) (fun v => kk x v m')) (fun r => r.1 = vLg S ty ln 10 ∧ zSm (fun c => c ≠ 332) μ0 r.2) := fun x m' h h2 => zok_gl ⟨by omega, by omega⟩ (ih _ _ _ ⟨h, j + 1, by omega, by omega, h2⟩ (by show 10 - ((j : Int) + 1).toNat < 10 - (j : Int).toNat; omega))
    cases hlv : vLv S ty j with
    | false => exact zok_t rfl (nx _ _ hJ (by rw [e, if_neg (by rw [hlv]; simp)]))
    | true =>
      refine zok_f (by decide) (zok_if (fun h8 => nx _ _ hJ (by rw [e, if_pos ⟨hlv, Or.inl h8⟩])) (fun h8 => ?_))
      rcases vLg_bd S ty ln j with h | ⟨g, g1, g2⟩
      · exact absurd h h8
      · rw [g1] at e h8 ⊢
        rw [show ((g : Int)).toNat = g from rfl] at e
        refine zok_cl (m_valueLength hC hV hL hl (by omega) hJ) (fun x m3 hx => ?_)
        obtain ⟨hx1, hx2⟩ := hx
        have hx1' : x = (vL S ty ln j : Int) := by
          have h9 : x = (mL S ty ln j : Int) := hx1
          rw [mL_same hW ty hl (by omega) (by omega)] at h9; exact h9
        subst hx1'
        refine zok_cl (m_valueLength hC hV hL hl (show g < 10 by omega) hx2) (fun x m4 hx => ?_)
        obtain ⟨hx1, hx2⟩ := hx
        have hx1' : x = (vL S ty ln g : Int) := by
          have h9 : x = (mL S ty ln g : Int) := hx1
          rw [mL_same hW ty hl (by omega) (by omega)] at h9; exact h9
        subst hx1'
        refine zok_if (fun h7 => nx _ _ hx2 (by rw [e, if_neg (by omega)])) (fun h7 => nx _ _ hx2 (by rw [e, if_pos ⟨hlv, Or.inr (by omega)⟩]))
end mAsk
