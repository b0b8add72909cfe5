/-! THE CLASS'S VIEW: startOf -/
theorem vStF_le {S : zSn} (hW : wS S) {v : Nat → Nat} (hb : ∀ f, f < 10 → v f ≤ 1000000000000000) {o : Nat} (ho : o < sN S) : bLen S v (sAhead S o) ≤ 60000000000000700 := by
  have h1 := ahead_le (S := S) v o
  have h2 := part_big hW hb (par_part hW ho)
  omega
section vStartOf
variable {μ : zM} {t : Nat} {S : zSn} {ty : Nat → Bool} {v : Nat → Nat}
theorem v_startOf (ht : okT t) (hR : zR μ 200 0 = t) (hS : pSc μ t S) (hW : wS S) {o : Nat} (ho : o < sN S) (hs : (zI μ 202 o = 0) ↔ vSh S ty o = false) (hv : ∀ o, o < sN S → zL μ 205 (sF S o).toNat = v (sF S o).toNat) (hb : ∀ f, f < 10 → v f ≤ 1000000000000000) (hT : vSh S ty o = true → vStF S v 5 o ≤ 2147483647) : zok (f4_startOf (o : Int) μ) (fun r => r = vStart S ty v o) := by
  obtain ⟨q1, q2, q3, q4, q5, q6, q7, q8, q9, q10, q11, q12, q13, q14, q15, q16⟩ := ht.f
  obtain ⟨z1, z2, z3, z4, z5, z6, z7, z8⟩ := zl_200s
  have hn := hW.1
  unfold f4_startOf
  rw [z2]
  refine zok_gd ⟨by omega, by omega⟩ (zok_if (fun h => zok_some ?_) (fun h => ?_))
  · have h9 := hs.1 h
    unfold vStart
    rw [if_neg (by rw [h9]; decide)]
  · have h9 : vSh S ty o = true := by
      cases hc : vSh S ty o with
      | true => rfl
      | false => exact absurd (hs.2 hc) h
    have e9 : vStart S ty v o = (vStF S v 5 o : Nat) := by unfold vStart; rw [if_pos h9]
    have hT := hT h9
    rw [e9]
    refine zok_x3 (fun (x y d : Int) => ∃ s m : Nat, x = s ∧ d + m = 5 ∧ 0 ≤ d ∧ (s : Int) ≤ d * 60000000000000700 ∧ ((y = -1 ∧ s = vStF S v 5 o) ∨ ∃ p : Nat, y = p ∧ p < sN S ∧ s + vStF S v m p = vStF S v 5 o)) (fun _ _ d => (5 - d).toNat) (fun kk x y d hx9 ih => ?_) zFu _ _ _ ⟨0, 5, rfl, by omega, by omega, by omega, Or.inr ⟨o, rfl, ho, by omega⟩⟩ (by show (5 - (0 : Int)).toNat < 100000; omega)
    obtain ⟨s, m, rfl, hd, hd0, hsb, hcase⟩ := hx9
    unfold f4_startOf_19
    refine zok_if (fun h4 => ?_) (fun h4 => ?_)
    · have hm : m = 0 := by omega
      subst hm
      have hfin : s = vStF S v 5 o := by
        rcases hcase with ⟨-, h⟩ | ⟨p, -, -, h⟩
        · exact h
        · have h0 : s + 0 = vStF S v 5 o := h
          omega
      exact zok_gl ⟨by omega, by omega⟩ (zok_some (by rw [← hfin]))
    · refine zok_if (fun hy => ?_) (fun hy => ?_)
      · have hfin : s = vStF S v 5 o := by
          rcases hcase with ⟨-, h⟩ | ⟨p, h1, -, -⟩
          · exact h
          · omega
        exact zok_gl ⟨by omega, by omega⟩ (zok_some (by rw [← hfin]))
      · rcases hcase with ⟨h, -⟩ | ⟨p, rfl, hp, hsum⟩
        · exact absurd h hy
        · obtain ⟨n, rfl⟩ : ∃ n, m = n + 1 := ⟨m - 1, by omega⟩
          have hst : vStF S v (n + 1) p = bLen S v (sAhead S p) + if sP S p = -1 then 0 else vStF S v n (sP S p).toNat := rfl
          have hle := vStF_le hW hb hp
          have hpar := hW.2.2.2.2.1 p hp
          have hxp := (hS.2.2.2.1 p hp).2.2.2.1
          refine zok_co (v_ahead ht hR hS hW hp hv hb) (fun r hr => ?_)
          subst hr
          simp only [hR, q3, q8, zx_nat, hxp]
          refine zok_gL ⟨by omega, by omega⟩ (zok_gd ⟨by omega, by omega⟩ (zok_lt (zok_gl ⟨by omega, by omega⟩ (ih _ _ _ ⟨s + bLen S v (sAhead S p), n, by omega, by omega, by omega, by omega, ?_⟩ (by show (5 - (d + 1)).toNat < (5 - d).toNat; omega)))))
          rcases hpar with h | ⟨q, h1, h2, -, -⟩
          · rw [if_pos h.1] at hst
            exact Or.inl ⟨h.1, by omega⟩
          · rw [if_neg (by omega), h1, show ((q : Int)).toNat = q from rfl] at hst
            exact Or.inr ⟨q, h1, by omega, by omega⟩
end vStartOf
