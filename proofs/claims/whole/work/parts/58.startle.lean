/-! An occurrence that is shown lies within the TEXT -/
theorem bLen_take {S : zSn} {v : Nat → Nat} {o : Nat} {l : List Int} (hx : (-(o : Int) - 1) ∈ l) : bLen S v (l.takeWhile (fun x => decide (x ≠ -(o : Int) - 1))) + chgN (sC S o) (v (sF S o).toNat) ≤ bLen S v l := by
  induction l with
  | nil => cases hx
  | cons y l ih =>
    have hc : bLen S v (y :: l) = (if 0 ≤ y then 1 else chgN (sC S (-y - 1).toNat) (v (sF S (-y - 1).toNat).toNat)) + bLen S v l := rfl
    by_cases e : y = -(o : Int) - 1
    · have e2 : (y :: l).takeWhile (fun x => decide (x ≠ -(o : Int) - 1)) = [] := by
        rw [List.takeWhile_cons, if_neg (by simp [e])]
      rw [e2, hc, if_neg (by omega), show (-y - 1).toNat = o by omega]
      show 0 + _ ≤ _
      omega
    · have e2 : (y :: l).takeWhile (fun x => decide (x ≠ -(o : Int) - 1)) = y :: l.takeWhile (fun x => decide (x ≠ -(o : Int) - 1)) := by
        rw [List.takeWhile_cons, if_pos (by simp [e])]
      have hm : (-(o : Int) - 1) ∈ l := by
        rcases List.mem_cons.1 hx with h | h
        · exact absurd h.symm e
        · exact h
      have h3 := ih hm
      have hc2 : bLen S v (y :: l.takeWhile (fun x => decide (x ≠ -(o : Int) - 1))) = (if 0 ≤ y then 1 else chgN (sC S (-y - 1).toNat) (v (sF S (-y - 1).toNat).toNat)) + bLen S v (l.takeWhile (fun x => decide (x ≠ -(o : Int) - 1))) := rfl
      rw [e2, hc2, hc]
      omega
theorem vStF_text {S : zSn} (hW : wS S) (ty : Nat → Bool) (ln : Nat → Nat) : ∀ (m o : Nat), o < sN S → vSh S ty o = true → vStF S (vL S ty ln) m o + chgN (sC S o) (vL S ty ln (sF S o).toNat) ≤ vTL S ty ln := by
  intro m
  induction m with
  | zero =>
    intro o ho hs
    have := vL_text hW ty ln (o + 1) o (by omega) ho hs
    show 0 + _ ≤ _
    omega
  | succ m ih =>
    intro o ho hs
    have hst : vStF S (vL S ty ln) (m + 1) o = bLen S (vL S ty ln) (sAhead S o) + if sP S o = -1 then 0 else vStF S (vL S ty ln) m (sP S o).toNat := rfl
    have hp := par_part hW ho
    have h1 : bLen S (vL S ty ln) (sAhead S o) + chgN (sC S o) (vL S ty ln (sF S o).toNat) ≤ bLen S (vL S ty ln) (sB S (sP S o)) := bLen_take (occ_in hW ho hp rfl)
    rcases (vSh_iff hW ty ho).1 hs with h | ⟨q, h2, h3, h4⟩
    · rw [if_pos h] at hst
      rw [h] at h1
      have h5 : vTL S ty ln = bLen S (vL S ty ln) (sB S (-1)) := rfl
      omega
    · rw [if_neg (by omega), h2, show ((q : Int)).toNat = q from rfl] at hst
      rw [h2] at h1
      have hq : q < sN S := by omega
      obtain ⟨z, g1, g2, g3, g4, -⟩ := vSd_part (S := S) (ty := ty) (f := (sF S q).toNat) (by rw [h4]; omega)
      have hz : z = q := by rw [h4] at g1; omega
      rw [hz] at g3 g4
      have hf := hW.2.2.2.1 q hq
      have h6 := vL_eq hW ty ln (f := (sF S q).toNat) (by omega)
      rw [if_neg (by rw [h4]; omega), h4] at h6
      have h7 := ih q hq g3
      have h8 : sC S q = 0 := Classical.byContradiction fun h9 => by
        have := hf.2.2.2.2.2.1 h9
        omega
      have h10 : chgN (sC S q) (vL S ty ln (sF S q).toNat) = vL S ty ln (sF S q).toNat := by
        rw [h8]; rfl
      omega
