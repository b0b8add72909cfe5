/-! THE CLASS'S VIEW: what is asked of it -/
/-- the order of leaving: the fields 1 to 9 that are live, by their first shown occurrences or by their numbers; then 0 -/
def ordP (S : zSn) (ty : Nat → Bool) : Nat → List Nat
  | 0 => []
  | k + 1 => if vSh S ty k = true ∧ sF S k ≠ 0 ∧ (sF S k).toNat ∉ ordP S ty k then ordP S ty k ++ [(sF S k).toNat] else ordP S ty k
def ordN (S : zSn) (ty : Nat → Bool) : Nat → List Nat
  | 0 => []
  | k + 1 => if k ≠ 0 ∧ vLv S ty k = true then ordN S ty k ++ [k] else ordN S ty k
def vOrd (S : zSn) (ty : Nat → Bool) (o : Int) : List Nat := (if o = 0 then ordN S ty 10 else ordP S ty (sN S)) ++ if vLv S ty 0 = true then [0] else []
/-- the place of a field in a list, -1 if it isn't there -/
def plc (l : List Nat) (f : Nat) : Int := match l with
  | [] => -1
  | x :: r => if x = f then 0 else if plc r f = -1 then -1 else plc r f + 1
def vYl (S : zSn) (ty : Nat → Bool) : Nat := cnt (fun o => vSh S ty o && decide (sD S o = 1) && !decide (vSd S ty (sF S o).toNat = o)) (sN S)
def vMi (S : zSn) (ty : Nat → Bool) : Nat := cnt (fun f => decide (2 ≤ vCn S ty f)) 10
def vLg (S : zSn) (ty : Nat → Bool) (ln : Nat → Nat) : Nat → Int
  | 0 => -1
  | k + 1 => if vLv S ty k = true ∧ (vLg S ty ln k = -1 ∨ vL S ty ln (vLg S ty ln k).toNat < vL S ty ln k) then (k : Int) else vLg S ty ln k
def vSum (S : zSn) (ty : Nat → Bool) (ln : Nat → Nat) : Nat := sumN (fun f => if vLv S ty f = true then vL S ty ln f else 0) 10
section vAsk
variable {μ : zM} {t : Nat} {S : zSn} {ty : Nat → Bool} {ln : Nat → Nat}
theorem v_isLive (hV : vShown S ty μ) {f : Nat} (hf : f < 10) : zok (f4_isLive (f : Int) μ) (fun b => b = vLv S ty f) := by
  unfold f4_isLive
  have h := hV.2.2.2.2 f (by omega)
  refine zok_lt (zok_lt (zok_if (fun h9 => zok_some ?_) (fun h9 => zok_some ?_)))
  · rw [← h]; exact ((mtest1 (f := (f : Int)) (by omega) (by omega)).mp h9).symm
  · rw [← h]
    cases e : mbit (zI μ 200 3) f with
    | true => rfl
    | false => exact absurd ((mtest1 (f := (f : Int)) (by omega) (by omega)).mpr e) h9
theorem v_mirr (hV : vShown S ty μ) : zok (f4_countMirrored μ) (fun r => r = vMi S ty) := by
  obtain ⟨l1, l2, l3, l4, l5, l6, l7, l8⟩ := zl_200s
  unfold f4_countMirrored
  refine zok_x2 (fun (n x : Int) => ∃ j : Nat, x = j ∧ j ≤ 10 ∧ n = cnt (fun f => decide (2 ≤ vCn S ty f)) j) (fun _ x => 10 - x.toNat) (fun kk n x hx ih => ?_) zFu _ _ ⟨0, rfl, by omega, rfl⟩ (by show 10 - 0 < 100000; omega)
  obtain ⟨j, rfl, hj, rfl⟩ := hx
  have hc := cnt_le (fun f => decide (2 ≤ vCn S ty f)) j
  have e : ((cnt (fun f => decide (2 ≤ vCn S ty f)) (j + 1) : Nat) : Int) = (cnt (fun f => decide (2 ≤ vCn S ty f)) j : Nat) + if 2 ≤ vCn S ty j then 1 else 0 := by
    show ((cnt _ j + if decide (2 ≤ vCn S ty j) = true then 1 else 0 : Nat) : Int) = _
    by_cases h : 2 ≤ vCn S ty j
    · rw [if_pos (decide_eq_true h), if_pos h]; omega
    · rw [if_neg (by simpa using h), if_neg h]; omega
  unfold f4_countMirrored_4
  refine zok_if (fun h => zok_some (by rw [show j = 10 by omega]; rfl)) (fun h => zok_gd ⟨by omega, by omega⟩ ?_)
  rw [zx_nat, hV.2.2.1 j (by omega)]
  refine zok_if (fun h2 => zok_gl ⟨by omega, by omega⟩ (ih _ _ ⟨j + 1, by omega, by omega, ?_⟩ (by show 10 - ((j : Int) + 1).toNat < 10 - (j : Int).toNat; omega))) (fun h2 => zok_gl ⟨by omega, by omega⟩ (zok_gl ⟨by omega, by omega⟩ (ih _ _ ⟨j + 1, by omega, by omega, ?_⟩ (by show 10 - ((j : Int) + 1).toNat < 10 - (j : Int).toNat; omega))))
  · rw [e, if_neg (by omega)]; omega
  · rw [e, if_pos (by omega)]
theorem v_yield (ht : okT t) (hR : zR μ 200 0 = t) (hS : pSc μ t S) (hW : wS S) (hV : vShown S ty μ) : zok (f4_countYielded μ) (fun r => r = vYl S ty) := by
  obtain ⟨q1, q2, q3, q4, q5, q6, q7, q8, q9, q10, q11, q12, q13, -⟩ := ht.f
  obtain ⟨l1, l2, l3, l4, l5, l6, l7, l8⟩ := zl_200s
  have hn := hW.1
  unfold f4_countYielded
  refine zok_x2 (fun (n x : Int) => ∃ j : Nat, x = j ∧ j ≤ sN S ∧ n = cnt (fun o => vSh S ty o && decide (sD S o = 1) && !decide (vSd S ty (sF S o).toNat = o)) j) (fun _ x => 60 - x.toNat) (fun kk n x hx ih => ?_) zFu _ _ ⟨0, rfl, by omega, rfl⟩ (by show 60 - 0 < 100000; omega)
  obtain ⟨j, rfl, hj, rfl⟩ := hx
  have hc := cnt_le (fun o => vSh S ty o && decide (sD S o = 1) && !decide (vSd S ty (sF S o).toNat = o)) j
  have e : ((cnt (fun o => vSh S ty o && decide (sD S o = 1) && !decide (vSd S ty (sF S o).toNat = o)) (j + 1) : Nat) : Int) = (cnt (fun o => vSh S ty o && decide (sD S o = 1) && !decide (vSd S ty (sF S o).toNat = o)) j : Nat) + if (vSh S ty j && decide (sD S j = 1) && !decide (vSd S ty (sF S j).toNat = j)) = true then 1 else 0 := by
    show ((cnt _ j + if _ = true then 1 else 0 : Nat) : Int) = _
    split <;> omega
  unfold f4_countYielded_4
  simp only [hR, q3, q7, hS.2.2.1, zx_nat]
  refine zok_if (fun h => zok_some (by unfold vYl; rw [show sN S = j by omega])) (fun h => zok_gd ⟨by omega, by omega⟩ ?_)
  have hj2 : j < sN S := by omega
  have hx := hS.2.2.2.1 j hj2
  obtain ⟨f1, f2, -, -, f5, -⟩ := hW.2.2.2.1 j hj2
  have go : ∀ v : Int, v = (cnt (fun o => vSh S ty o && decide (sD S o = 1) && !decide (vSd S ty (sF S o).toNat = o)) (j + 1) : Nat) → zok (kk v ((j : Int) + 1)) (fun r => r = vYl S ty) := fun v hv => ih _ _ ⟨j + 1, by omega, by omega, hv⟩ (by show 60 - ((j : Int) + 1).toNat < 60 - (j : Int).toNat; omega)
  simp only [hV.1 j hj2, hx.2.2.1]
  cases eS : vSh S ty j with
  | false =>
    refine zok_t rfl (zok_gl ⟨by omega, by omega⟩ (go _ ?_))
    rw [e, eS]; simp
  | true =>
    refine zok_f (by decide) (zok_gd ⟨by omega, by omega⟩ ?_)
    by_cases eD : sD S j = 0
    · refine zok_t eD (zok_gl ⟨by omega, by omega⟩ (go _ ?_))
      rw [e, eD]; simp
    · have eD1 : sD S j = 1 := f5.resolve_left eD
      refine zok_f eD (zok_co (v_isDef ht hR (by omega) (f := (sF S j).toNat) (by omega) (by rw [hx.1]; omega)) (fun b hb => ?_))
      rw [hV.2.1 _ (by omega)] at hb
      by_cases e9 : vSd S ty (sF S j).toNat = j
      · rw [decide_eq_true e9] at hb
        subst hb
        refine zok_f (by decide) (zok_gl ⟨by omega, by omega⟩ (go _ ?_))
        rw [e, decide_eq_true e9]; simp
      · rw [decide_eq_false e9] at hb
        subst hb
        refine zok_t rfl (zok_gl ⟨by omega, by omega⟩ (zok_gl ⟨by omega, by omega⟩ (go _ ?_)))
        rw [e, eS, eD1, decide_eq_false e9]; simp
theorem v_sum (hV : vShown S ty μ) (hL : ∀ f, f < 10 → zL μ 205 f = vL S ty ln f) (hb : ∀ f, f < 10 → vL S ty ln f ≤ 1000000000000000) : zok (f4_lengthOfLiveValues μ) (fun r => r = vSum S ty ln) := by
  obtain ⟨l1, l2, l3, l4, l5, l6, l7, l8⟩ := zl_200s
  unfold f4_lengthOfLiveValues
  refine zok_x2 (fun (n x : Int) => ∃ j : Nat, x = j ∧ j ≤ 10 ∧ n = sumN (fun f => if vLv S ty f = true then vL S ty ln f else 0) j) (fun _ x => 10 - x.toNat) (fun kk n x hx ih => ?_) zFu _ _ ⟨0, rfl, by omega, rfl⟩ (by show 10 - 0 < 100000; omega)
  obtain ⟨j, rfl, hj, rfl⟩ := hx
  have hs : sumN (fun f => if vLv S ty f = true then vL S ty ln f else 0) j ≤ j * 1000000000000000 := sumN_le (fun i hi => by
    have := hb i (by omega)
    split <;> omega)
  have hs2 : j * 1000000000000000 ≤ 10 * 1000000000000000 := Nat.mul_le_mul_right _ (by omega)
  unfold f4_lengthOfLiveValues_4
  refine zok_if (fun h => zok_some (by rw [show j = 10 by omega]; rfl)) (fun h => zok_co (v_isLive hV (show j < 10 by omega)) (fun b hb9 => ?_))
  subst hb9
  have go : ∀ v : Int, v = sumN (fun f => if vLv S ty f = true then vL S ty ln f else 0) (j + 1) → zok (kk v ((j : Int) + 1)) (fun r => r = vSum S ty ln) := fun v hv => ih _ _ ⟨j + 1, by omega, by omega, hv⟩ (by show 10 - ((j : Int) + 1).toNat < 10 - (j : Int).toNat; omega)
  have e : ((sumN (fun f => if vLv S ty f = true then vL S ty ln f else 0) (j + 1) : Nat) : Int) = (sumN (fun f => if vLv S ty f = true then vL S ty ln f else 0) j : Nat) + ((if vLv S ty j = true then vL S ty ln j else 0 : Nat) : Int) := by
    show ((sumN _ j + (if vLv S ty j = true then vL S ty ln j else 0) : Nat) : Int) = _; omega
  have hbj := hb j (by omega)
  cases eL : vLv S ty j with
  | false =>
    refine zok_t rfl (zok_gl ⟨by omega, by omega⟩ (go _ ?_))
    rw [e, eL]; simp
  | true =>
    refine zok_f (by decide) (zok_gd ⟨by omega, by omega⟩ ?_)
    rw [zx_nat, hL j (by omega)]
    refine zok_gL ⟨by omega, by omega⟩ (zok_gl ⟨by omega, by omega⟩ (go _ ?_))
    rw [e, eL]; simp
theorem v_byteAt {tx : Nat → List Int} {f : Nat} (hf : f < 10) (hL : zL μ 205 f = (vV S ty tx f).length) (hr : vRow (vV S ty tx) μ f) (h4 : (vV S ty tx f).length ≤ 400) (i : Int) : zok (f4_valueByte (f : Int) i μ) (fun r => r = if 0 ≤ i ∧ i < (vV S ty tx f).length then (vV S ty tx f).getD i.toNat 0 else -1) := by
  obtain ⟨l1, l2, l3, l4, l5, l6, l7, l8⟩ := zl_200s
  unfold f4_valueByte
  refine zok_if (fun h => zok_some (by rw [if_neg (by omega)])) (fun h => zok_gd ⟨by omega, by omega⟩ (zok_lt ?_))
  rw [zx_nat, hL]
  refine zok_if (fun h2 => zok_some (by have := zcmp_ge.mp h2; rw [if_neg (by omega)])) (fun h2 => ?_)
  have h3 : i < (vV S ty tx f).length := by
    rcases Int.lt_or_le i (vV S ty tx f).length with q | q
    · exact q
    · exact absurd (zcmp_ge.mpr q) h2
  refine zok_f (by omega) (zok_gl ⟨by omega, by omega⟩ (zok_gl ⟨by omega, by omega⟩ (zok_gd ⟨by omega, by omega⟩ (zok_some ?_))))
  rw [if_pos ⟨by omega, h3⟩, show zx ((f : Int) * 400 + i) = 400 * f + i.toNat from by show (_ : Int).toNat = _; omega]
  exact hr _ (by omega)
theorem v_longest (hV : vShown S ty μ) (hL : ∀ f, f < 10 → zL μ 205 f = vL S ty ln f) : zok (f4_fieldOfLongestValue μ) (fun r => r = vLg S ty ln 10) := by
  obtain ⟨l1, l2, l3, l4, l5, l6, l7, l8⟩ := zl_200s
  unfold f4_fieldOfLongestValue
  refine zok_x2 (fun (b x : Int) => ∃ j : Nat, x = j ∧ j ≤ 10 ∧ b = vLg S ty ln j ∧ -1 ≤ b ∧ b < j) (fun _ x => 10 - x.toNat) (fun kk b x hx ih => ?_) zFu _ _ ⟨0, rfl, by omega, rfl, by omega, by omega⟩ (by show 10 - 0 < 100000; omega)
  obtain ⟨j, rfl, hj, hb, hb0, hb1⟩ := hx
  have e : vLg S ty ln (j + 1) = if vLv S ty j = true ∧ (vLg S ty ln j = -1 ∨ vL S ty ln (vLg S ty ln j).toNat < vL S ty ln j) then (j : Int) else vLg S ty ln j := rfl
  rw [← hb] at e
  unfold f4_fieldOfLongestValue_4
  refine zok_if (fun h => zok_some (by rw [hb, show j = 10 by omega])) (fun h => zok_co (v_isLive hV (show j < 10 by omega)) (fun b2 hb2 => ?_))
  subst hb2
  have go : ∀ v : Int, v = vLg S ty ln (j + 1) → -1 ≤ v → v < j + 1 → zok (kk v ((j : Int) + 1)) (fun r => r = vLg S ty ln 10) := fun v hv h0 h1 => ih _ _ ⟨j + 1, by omega, by omega, hv, h0, by show v < ((j + 1 : Nat) : Int); omega⟩ (by show 10 - ((j : Int) + 1).toNat < 10 - (j : Int).toNat; omega)
  cases eL : vLv S ty j with
  | false =>
    refine zok_t rfl (zok_gl ⟨by omega, by omega⟩ (go _ ?_ hb0 (by omega)))
    rw [e, if_neg (fun q => by rw [eL] at q; exact absurd q.1 (by decide))]
  | true =>
    refine zok_f (by decide) (zok_if (fun h1 => zok_gl ⟨by omega, by omega⟩ (go _ ?_ (by omega) (by omega))) (fun h1 => zok_gd ⟨by omega, by omega⟩ (zok_gd ⟨by omega, by omega⟩ (zok_lt ?_))))
    · rw [e, if_pos ⟨eL, Or.inl h1⟩]
    · rw [zx_nat, hL j (by omega), show zx b = b.toNat from rfl, hL b.toNat (by omega)]
      refine zok_if (fun h2 => zok_gl ⟨by omega, by omega⟩ (go _ ?_ hb0 (by omega))) (fun h2 => zok_gl ⟨by omega, by omega⟩ (go _ ?_ (by omega) (by omega)))
      · have := zcmp_le.mp h2
        rw [e, if_neg (fun q => by rcases q.2 with q | q <;> omega)]
      · have h3 : ¬ ((vL S ty ln j : Nat) : Int) ≤ (vL S ty ln b.toNat : Nat) := fun q => h2 (zcmp_le.mpr q)
        rw [e, if_pos ⟨eL, Or.inr (by omega)⟩]
end vAsk
