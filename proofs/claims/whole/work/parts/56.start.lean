/-! THE CLASS'S VIEW: where an occurrence begins -/
theorem bLen_app (S : zSn) (v : Nat → Nat) (l1 l2 : List Int) : bLen S v (l1 ++ l2) = bLen S v l1 + bLen S v l2 := by
  induction l1 with
  | nil => show bLen S v l2 = 0 + bLen S v l2; omega
  | cons x l ih => show _ + bLen S v (l ++ l2) = _ + bLen S v l + bLen S v l2; rw [ih]; omega
theorem ahead_le {S : zSn} (v : Nat → Nat) (o : Nat) : bLen S v (sAhead S o) ≤ bLen S v (sB S (sP S o)) := by
  have h : sB S (sP S o) = sAhead S o ++ (sB S (sP S o)).dropWhile (fun x => decide (x ≠ -(o : Int) - 1)) := (List.takeWhile_append_dropWhile).symm
  have h2 := bLen_app S v (sAhead S o) ((sB S (sP S o)).dropWhile (fun x => decide (x ≠ -(o : Int) - 1)))
  rw [← h] at h2
  omega
theorem par_part {S : zSn} (hW : wS S) {o : Nat} (ho : o < sN S) : isPart S (sP S o) := by
  rcases hW.2.2.2.2.1 o ho with h | ⟨q, h1, h2, h3, -⟩
  · exact Or.inl h.1
  · exact Or.inr ⟨q, h1, by omega, h3⟩
theorem part_big {S : zSn} (hW : wS S) {v : Nat → Nat} (hb : ∀ f, f < 10 → v f ≤ 1000000000000000) {p : Int} (hp : isPart S p) : bLen S v (sB S p) ≤ 60000000000000700 := by
  rw [bLen_part hW v hp]
  have hlit := (hW.2.2.2.2.2.2.2.1 p hp).2.2
  have hs : sumN (fun o => if sP S o = p then chgN (sC S o) (v (sF S o).toNat) else 0) (sN S) ≤ sN S * 1000000000000000 := sumN_le (fun i hi => by
    split
    · have := hW.2.2.2.1 i hi
      have := hb (sF S i).toNat (by omega)
      have := chgN_le (sC S i) (v (sF S i).toNat)
      omega
    · omega)
  have hs2 : sN S * 1000000000000000 ≤ 60 * 1000000000000000 := Nat.mul_le_mul_right _ hW.1
  omega
/-- where it begins: what is ahead of it in its part, and where that begins -/
def vStF (S : zSn) (v : Nat → Nat) : Nat → Nat → Nat
  | 0, _ => 0
  | m + 1, o => bLen S v (sAhead S o) + if sP S o = -1 then 0 else vStF S v m (sP S o).toNat
def vStart (S : zSn) (ty : Nat → Bool) (v : Nat → Nat) (o : Nat) : Int := if vSh S ty o = true then (vStF S v 5 o : Nat) else -1
section vStartS
variable {μ : zM} {t : Nat} {S : zSn} {ty : Nat → Bool} {v : Nat → Nat}
theorem v_ahead (ht : okT t) (hR : zR μ 200 0 = t) (hS : pSc μ t S) (hW : wS S) {o : Nat} (ho : o < sN S) (hv : ∀ o, o < sN S → zL μ 205 (sF S o).toNat = v (sF S o).toNat) (hb : ∀ f, f < 10 → v f ≤ 1000000000000000) : zok (f4_lengthAheadInPart (o : Int) μ) (fun r => r = bLen S v (sAhead S o)) := by
  obtain ⟨q1, q2, q3, q4, q5, q6, q7, q8, q9, q10, q11, q12, q13, q14, q15, q16⟩ := ht.f
  have hn := hW.1
  have hp := par_part hW ho
  have hx := hS.2.2.2.1 o ho
  obtain ⟨b1, b2, b3⟩ := hS.2.2.2.2.2.2.2.2 o ho
  have b0 := (hS.2.2.2.2.2.2.2.1 _ hp).2.1
  have hbig := part_big hW hb hp
  have hal := ahead_le (S := S) v o
  unfold f4_lengthAheadInPart
  simp only [hR, q3, q8, zx_nat, hx.2.2.2.1]
  refine zok_gd ⟨by omega, by omega⟩ (zok_lt (zok_co (s_first ht hS hW hp) (fun r hr => ?_)))
  subst hr
  generalize hE : zI μ (t + 9) o = E at *
  generalize hf0 : cFirst μ t (sP S o) = f0 at *
  refine zok_x3 (fun (p x i : Int) => p = sP S o ∧ ∃ pre rest : List Int, sAhead S o = pre ++ rest ∧ x = bLen S v pre ∧ 0 ≤ i ∧ i ≤ E ∧ pSel μ (zit t) (sP S o) i.toNat (E - i).toNat = rest) (fun _ _ i => 701 - i.toNat) (fun kk p x i hx9 ih => ?_) zFu _ _ _ ⟨rfl, [], sAhead S o, rfl, rfl, b0, b1, b3⟩ (by show 701 - _ < 100000; omega)
  obtain ⟨rfl, pre, rest, hA, rfl, h0, h1, hsel⟩ := hx9
  have hpre : bLen S v (sAhead S o) = bLen S v pre + bLen S v rest := by rw [hA, bLen_app]
  unfold f4_lengthAheadInPart_22
  simp only [hR, q3, q12, zx_nat, hE]
  refine zok_gd ⟨by omega, by omega⟩ (zok_if (fun h => zok_some ?_) (fun h => ?_))
  · have e : (E - i).toNat = 0 := by omega
    rw [e] at hsel
    have hr0 : rest = [] := hsel.symm
    rw [hA, hr0, List.append_nil]
  · obtain ⟨n, hn9⟩ : ∃ n, (E - i).toNat = n + 1 := ⟨(E - i).toNat - 1, by omega⟩
    rw [hn9] at hsel
    have en : (E - (i + 1)).toNat = n := by omega
    have ei : (i + 1).toNat = i.toNat + 1 := by omega
    have hsel2 : (if zI μ (zit t + 1) i.toNat = sP S o then zI μ (zit t) i.toNat :: pSel μ (zit t) (sP S o) (i.toNat + 1) n else pSel μ (zit t) (sP S o) (i.toNat + 1) n) = rest := hsel
    refine zok_gd ⟨by omega, by rw [q15]; omega⟩ (zok_if (fun hpt => ?_) (fun hpt => ?_))
    · have hpt2 : zI μ (zit t + 1) i.toNat = sP S o := hpt
      rw [if_pos hpt2] at hsel2
      refine zok_gd ⟨by omega, by rw [q14]; omega⟩ (zok_lt ?_)
      rw [show zx i = i.toNat from rfl]
      generalize zI μ (zit t) i.toNat = x at *
      have hxm : x ∈ sB S (sP S o) := by
        have : x ∈ sAhead S o := by rw [hA, ← hsel2]; exact List.mem_append_right _ List.mem_cons_self
        exact (List.takeWhile_subset _) this
      have hxr := (hW.2.2.2.2.2.2.2.1 _ hp).2.1 x hxm
      have hrest : bLen S v rest = (if 0 ≤ x then 1 else chgN (sC S (-x - 1).toNat) (v (sF S (-x - 1).toNat).toNat)) + bLen S v (pSel μ (zit t) (sP S o) (i.toNat + 1) n) := by rw [← hsel2]; rfl
      have e9 : bLen S v (pre ++ [x]) = bLen S v pre + (if 0 ≤ x then 1 else chgN (sC S (-x - 1).toNat) (v (sF S (-x - 1).toNat).toNat)) := by rw [bLen_app]; show _ + (_ + 0) = _; omega
      have go : ∀ w : Int, w = bLen S v (pre ++ [x]) → zok (kk (sP S o) w (i + 1)) (fun r => r = bLen S v (sAhead S o)) := fun w hw => ih _ _ _ ⟨rfl, pre ++ [x], pSel μ (zit t) (sP S o) (i.toNat + 1) n, by rw [hA, ← hsel2, List.append_assoc]; rfl, hw, by omega, by omega, by rw [ei, en]⟩ (by show 701 - (i + 1).toNat < 701 - i.toNat; omega)
      refine zok_if (fun hneg => ?_) (fun hneg => ?_)
      · rw [if_neg (by omega)] at hrest e9
        refine zok_gl ⟨by omega, by omega⟩ (zok_gl ⟨by omega, by omega⟩ ?_)
        obtain ⟨g1, g2⟩ := body_occ hW hp hxm hneg
        have g3 := hW.2.2.2.1 _ g1
        have hh := v_chl (v := v) ht hR hS hW g1 (hv _ g1) (hb _ (by omega))
        rw [show (((-x - 1).toNat : Nat) : Int) = -x - 1 by omega] at hh
        refine zok_co hh (fun r hr => ?_)
        subst hr
        exact zok_gL ⟨by omega, by omega⟩ (zok_gl ⟨by omega, by omega⟩ (go _ (by rw [e9]; omega)))
      · rw [if_pos (by omega)] at hrest e9
        exact zok_gL ⟨by omega, by omega⟩ (zok_gl ⟨by omega, by omega⟩ (go _ (by rw [e9]; omega)))
    · have hpt2 : ¬ zI μ (zit t + 1) i.toNat = sP S o := hpt
      rw [if_neg hpt2] at hsel2
      exact zok_gl ⟨by omega, by omega⟩ (ih _ _ _ ⟨rfl, pre, rest, hA, rfl, by omega, by omega, by rw [ei, en]; exact hsel2⟩ (by show 701 - (i + 1).toNat < 701 - i.toNat; omega))
end vStartS
