/-! THE CLASS'S VIEW: a field's place, why it is not live -/
theorem plc_ge (l : List Nat) (f : Nat) : -1 ≤ plc l f := by
  induction l with
  | nil => exact Int.le_refl _
  | cons x r ih =>
    show -1 ≤ if x = f then (0 : Int) else if plc r f = -1 then -1 else plc r f + 1
    split
    · omega
    · split <;> omega
def wyA (S : zSn) (ty : Nat → Bool) (f : Nat) (o : Nat) : Bool := decide (sF S o = f) && !decide (sP S o = -1) && vSh S ty (sP S o).toNat
def wyB (S : zSn) (ty : Nat → Bool) (f : Nat) (o : Nat) : Bool := wyA S ty f o && ty (sF S (sP S o).toNat).toNat
def vWhy (S : zSn) (ty : Nat → Bool) (f : Nat) : Int := if vLv S ty f = true then 0 else if cnt (fun o => decide (sF S o = f)) (sN S) = 0 then 1 else if 0 < cnt (wyB S ty f) (sN S) then 2 else if 0 < cnt (wyA S ty f) (sN S) then 3 else 4
section vWhyS
variable {μ : zM} {t : Nat} {S : zSn} {ty : Nat → Bool}
theorem v_place {l : List Nat} (h : vOl l μ) (hl : l.length ≤ 10) (f : Nat) : zok (f4_placeOf (f : Int) μ) (fun r => r = plc l f) := by
  obtain ⟨l1, l2, l3, l4, l5, l6, l7, l8⟩ := zl_200s
  unfold f4_placeOf
  refine zok_x1 (fun (x : Int) => ∃ j : Nat, x = j ∧ j ≤ l.length ∧ plc l f = if plc (l.drop j) f = -1 then -1 else j + plc (l.drop j) f) (fun x => 10 - x.toNat) (fun kk x hx ih => ?_) zFu _ ⟨0, rfl, by omega, by rw [List.drop_zero]; split <;> omega⟩ (by show 10 - 0 < 100000; omega)
  obtain ⟨j, rfl, hj, hp⟩ := hx
  unfold f4_placeOf_2
  rw [h.1]
  refine zok_if (fun h9 => zok_some ?_) (fun h9 => zok_gd ⟨by omega, by omega⟩ ?_)
  · rw [hp, List.drop_eq_nil_of_le (by omega)]; rfl
  · have hj2 : j < l.length := by omega
    have ed : l.drop j = l.getD j 0 :: l.drop (j + 1) := by
      rw [List.drop_eq_getElem_cons hj2, List.getD_eq_getElem?_getD, List.getElem?_eq_getElem hj2]; rfl
    have ep : plc (l.drop j) f = if l.getD j 0 = f then 0 else if plc (l.drop (j + 1)) f = -1 then -1 else plc (l.drop (j + 1)) f + 1 := by rw [ed]; rfl
    have hg := plc_ge (l.drop (j + 1)) f
    rw [zx_nat, h.2 j hj2]
    refine zok_if (fun e => zok_some ?_) (fun e => zok_gl ⟨by omega, by omega⟩ (ih _ ⟨j + 1, by omega, by omega, ?_⟩ (by show 10 - ((j : Int) + 1).toNat < 10 - (j : Int).toNat; omega)))
    · rw [if_pos (by omega)] at ep
      rw [hp, ep]; rfl
    · rw [if_neg (by omega)] at ep
      rw [hp, ep]
      by_cases e2 : plc (l.drop (j + 1)) f = -1
      · rw [if_pos e2, if_pos rfl, if_pos e2]
      · rw [if_neg e2, if_neg e2, if_neg (by omega)]; omega
theorem v_why (ht : okT t) (hR : zR μ 200 0 = t) (hS : pSc μ t S) (hW : wS S) (hV : vShown S ty μ) (hT : ∀ f, f < 10 → mbit (zI μ 200 1) f = ty f) {f : Nat} (hf : f < 10) : zok (f4_reasonNotLive (f : Int) μ) (fun r => r = vWhy S ty f) := by
  obtain ⟨q1, q2, q3, q4, q5, q6, q7, q8, q9, q10, q11, q12, q13, -⟩ := ht.f
  obtain ⟨l1, l2, l3, l4, l5, l6, l7, l8⟩ := zl_200s
  have hn := hW.1
  unfold f4_reasonNotLive
  refine zok_co (v_isLive hV hf) (fun b hb => ?_)
  subst hb
  cases eL : vLv S ty f with
  | true => exact zok_f (by decide) (zok_some (by unfold vWhy; rw [if_pos eL]))
  | false =>
    refine zok_t rfl (zok_lt (zok_lt ?_))
    rw [hR]
    have hset := hS.2.2.2.2.2.1.2 f (by omega)
    refine zok_if (fun h9 => zok_some ?_) (fun h9 => ?_)
    · have hb := (mtest1 (f := (f : Int)) (by omega) (by omega)).mp h9
      have hb2 : decide (∃ o, o < sN S ∧ sF S o = f) = false := by rw [← hset]; exact hb
      have hb3 := of_decide_eq_false hb2
      unfold vWhy
      rw [if_neg (by rw [eL]; decide), if_pos]
      rcases Nat.eq_zero_or_pos (cnt (fun o => decide (sF S o = f)) (sN S)) with h | h
      · exact h
      · obtain ⟨i, h1, h2⟩ := cnt_pos.mp h
        exact absurd ⟨i, h1, of_decide_eq_true h2⟩ hb3
    · have hb : mbit (zI μ t 3) f = true := by
        cases e : mbit (zI μ t 3) f with
        | true => rfl
        | false => exact absurd ((mtest1 (f := (f : Int)) (by omega) (by omega)).mpr e) h9
      rw [hset] at hb
      have hc : ¬ cnt (fun o => decide (sF S o = f)) (sN S) = 0 := by
        obtain ⟨o, h1, h2⟩ := of_decide_eq_true hb
        have := (cnt_pos (P := fun o => decide (sF S o = (f : Int))) (n := sN S)).mpr ⟨o, h1, decide_eq_true h2⟩
        omega
      have hw : vWhy S ty f = if 0 < cnt (wyB S ty f) (sN S) then 2 else if 0 < cnt (wyA S ty f) (sN S) then 3 else 4 := by
        unfold vWhy; rw [if_neg (by rw [eL]; decide), if_neg hc]
      refine zok_x2 (fun (y x : Int) => ∃ k : Nat, x = k ∧ k ≤ sN S ∧ cnt (wyB S ty f) k = 0 ∧ y = if 0 < cnt (wyA S ty f) k then 1 else 0) (fun _ x => 60 - x.toNat) (fun kk y x hx ih => ?_) zFu _ _ ⟨0, rfl, by omega, rfl, rfl⟩ (by show 60 - 0 < 100000; omega)
      obtain ⟨k, rfl, hk, hB, hy⟩ := hx
      have stepB : cnt (wyB S ty f) (k + 1) = cnt (wyB S ty f) k + if wyB S ty f k = true then 1 else 0 := rfl
      have stepA : cnt (wyA S ty f) (k + 1) = cnt (wyA S ty f) k + if wyA S ty f k = true then 1 else 0 := rfl
      unfold f4_reasonNotLive_30
      simp only [hR, q3, q5, q8, hS.2.2.1, zx_nat]
      refine zok_if (fun h => ?_) (fun h => ?_)
      · have e : k = sN S := by omega
        subst e
        rw [hw, hB, if_neg (Nat.lt_irrefl 0)]
        by_cases e2 : 0 < cnt (wyA S ty f) (sN S)
        · rw [if_pos e2] at hy ⊢
          exact zok_f (by omega) (zok_some rfl)
        · rw [if_neg e2] at hy ⊢
          exact zok_t hy (zok_some rfl)
      · have hk2 : k < sN S := by omega
        have hx := hS.2.2.2.1 k hk2
        have meas : 60 - ((k : Int) + 1).toNat < 60 - (k : Int).toNat := by omega
        refine zok_gd ⟨by omega, by omega⟩ (zok_lt (zok_gd ⟨by omega, by omega⟩ ?_))
        rw [hx.2.2.2.1]
        simp only [hx.1]
        have hBk : wyA S ty f k = false → wyB S ty f k = false := fun h => by unfold wyB; rw [h]; rfl
        have skip : wyA S ty f k = false → zok (zgl ((k : Int) + 1) (fun v => kk y v)) (fun r => r = vWhy S ty f) := fun hA => zok_gl ⟨by omega, by omega⟩ (ih _ _ ⟨k + 1, by omega, by omega, by rw [stepB, hBk hA]; simpa using hB, by rw [stepA, hA]; simpa using hy⟩ meas)
        refine zok_if (fun eF => ?_) (fun eF => skip (by unfold wyA; rw [decide_eq_false eF]; rfl))
        refine zok_if (fun eP => zok_gl ⟨by omega, by omega⟩ (ih _ _ ⟨k + 1, by omega, by omega, ?_, ?_⟩ meas)) (fun eP => ?_)
        · have hA : wyA S ty f k = false := by unfold wyA; rw [decide_eq_true eP]; simp
          rw [stepB, hBk hA]; simpa using hB
        · have hA : wyA S ty f k = false := by unfold wyA; rw [decide_eq_true eP]; simp
          rw [stepA, hA]; simpa using hy
        · rcases hW.2.2.2.2.1 k hk2 with h8 | ⟨p, h1, h2, h3, h4⟩
          · exact absurd h8.1 eP
          · have ez : zx (sP S k) = p := zx_eq h1
            rw [ez]
            refine zok_gd ⟨by omega, by omega⟩ ?_
            rw [hV.1 p (by omega)]
            have eA : wyA S ty f k = vSh S ty p := by
              unfold wyA
              rw [decide_eq_true eF, decide_eq_false eP, show (sP S k).toNat = p by omega]; simp
            cases eS : vSh S ty p with
            | false => exact zok_t rfl (skip (by rw [eA, eS]))
            | true =>
              refine zok_f (by decide) (zok_gd ⟨by omega, by omega⟩ ?_)
              obtain ⟨g1, g2, -⟩ := hW.2.2.2.1 p (by omega)
              rw [(hS.2.2.2.1 p (by omega)).1]
              refine zok_co (v_isTyped (ty := ty) (sF S p) g1 g2 (hT _ (by omega))) (fun b hb9 => ?_)
              subst hb9
              have eB : wyB S ty f k = ty (sF S p).toNat := by
                unfold wyB
                rw [eA, eS, show (sP S k).toNat = p by omega]; simp
              cases eT : ty (sF S p).toNat with
              | true =>
                refine zok_f (by decide) (zok_some ?_)
                rw [hw, if_pos (cnt_pos.mpr ⟨k, hk2, by rw [eB, eT]⟩)]
              | false =>
                refine zok_t rfl (zok_gl ⟨by omega, by omega⟩ (ih _ _ ⟨k + 1, by omega, by omega, by rw [stepB, eB, eT]; simpa using hB, ?_⟩ meas))
                rw [stepA, eA, eS, if_pos rfl, if_pos (by omega)]
end vWhyS
