/-! THE CLASS'S VIEW: the lengths -/
theorem v_digits {x : Int} (h0 : 0 ≤ x) (h1 : x < 9223372036854775808) : zok (f4_countDigits x) (fun r => r = dgt x.toNat) := by
  unfold f4_countDigits
  refine zok_lt ?_
  rw [zdivL_nn h0 h1]
  refine zok_x3 (fun (c w i : Int) => ∃ n : Nat, ∃ j : Nat, w = n / 10 ∧ i = j ∧ j ≤ 20 ∧ n < 9223372036854775808 ∧ 0 ≤ c ∧ c ≤ j + 1 ∧ c + (dgF (20 - j) n : Nat) = dgt x.toNat + 1) (fun _ _ i => 20 - i.toNat) (fun kk c w i hx ih => ?_) zFu 1 (x / 10) 0 ⟨x.toNat, 0, by omega, rfl, by omega, by omega, by omega, by omega, by show (1 : Int) + (dgF 20 x.toNat : Nat) = _; unfold dgt; omega⟩ (by show 20 - 0 < 100000; omega)
  obtain ⟨n, j, rfl, rfl, h2, h3, h4, h5, h6⟩ := hx
  unfold f4_countDigits_11
  refine zok_if (fun h => zok_some ?_) (fun h => zok_lt ?_)
  · have e : j = 20 := by omega
    subst e
    have h7 : (dgF (20 - 20) n : Nat) = 1 := rfl
    rw [h7] at h6
    omega
  · obtain ⟨m, hm⟩ : ∃ m, 20 - j = m + 1 := ⟨19 - j, by omega⟩
    rw [hm] at h6
    have e0 : dgF (m + 1) n = if n < 10 then 1 else dgF m (n / 10) + 1 := rfl
    rw [e0] at h6
    by_cases e : n < 10
    · rw [if_pos e] at h6
      exact zok_t (zcmp_le.mpr (by omega)) (zok_some (by omega))
    · rw [if_neg e] at h6
      refine zok_f (fun h9 => by have := zcmp_le.mp h9; omega) (zok_lt ?_)
      rw [zdivL_nn (by omega) (by omega)]
      refine zok_gl ⟨by omega, by omega⟩ (zok_gl ⟨by omega, by omega⟩ (ih _ _ _ ⟨n / 10, j + 1, by omega, by omega, by omega, by omega, by omega, by omega, ?_⟩ (by show 20 - ((j : Int) + 1).toNat < 20 - (j : Int).toNat; omega)))
      rw [show 20 - (j + 1) = m by omega]
      omega
section vMeas
variable {μ : zM} {t : Nat} {S : zSn} {ty : Nat → Bool} {v : Nat → Nat}
/-- the view looks at this snippet, its lengths of fields are these -/
theorem v_chl (ht : okT t) (hR : zR μ 200 0 = t) (hS : pSc μ t S) (hW : wS S) {o : Nat} (ho : o < sN S) (hv : zL μ 205 (sF S o).toNat = v (sF S o).toNat) (hb : v (sF S o).toNat ≤ 1000000000000000) : zok (f4_changedLength (o : Int) μ) (fun r => r = chgN (sC S o) (v (sF S o).toNat)) := by
  obtain ⟨q1, q2, q3, q4, q5, q6, q7, q8, q9, q10, q11, q12, q13, -⟩ := ht.f
  obtain ⟨l1, l2, l3, l4, l5, -⟩ := zl_200s
  have hn := hW.1
  have hx := hS.2.2.2.1 o ho
  obtain ⟨f1, f2, -⟩ := hW.2.2.2.1 o ho
  unfold f4_changedLength
  rw [hR, q3, q5, q6, zx_nat, hx.1, hx.2.1, l5, show zx (sF S o) = (sF S o).toNat from rfl, hv]
  refine zok_gd ⟨by omega, by omega⟩ (zok_gd ⟨by omega, by omega⟩ (zok_lt (zok_gd ⟨by omega, by omega⟩ (zok_lt (zok_if (fun h => zok_lt (zok_some ?_)) (fun h => zok_if (fun h2 => ?_) (fun h2 => zok_some ?_)))))))
  · unfold chgN; rw [if_pos h]; omega
  · refine zok_co (v_digits (by omega) (by omega)) (fun r hr => zok_some ?_)
    unfold chgN; rw [if_neg h, if_pos h2, hr]; rfl
  · unfold chgN; rw [if_neg h, if_neg h2]
theorem v_part (ht : okT t) (hR : zR μ 200 0 = t) (hS : pSc μ t S) (hW : wS S) {p : Int} (hp : isPart S p) (hv : ∀ o, o < sN S → sP S o = p → zL μ 205 (sF S o).toNat = v (sF S o).toNat) (hb : ∀ f, f < 10 → v f ≤ 1000000000000000) : zok (f4_measurePart p μ) (fun r => r = bLen S v (sB S p)) := by
  obtain ⟨q1, q2, q3, q4, q5, q6, q7, q8, q9, q10, q11, q12, q13, -⟩ := ht.f
  have hn := hW.1
  have hpr : -1 ≤ p ∧ p < 60 := by
    rcases hp with h | ⟨o, h1, h2, -⟩
    · omega
    · omega
  have hlit := (hW.2.2.2.2.2.2.2.1 p hp).2.2
  unfold f4_measurePart
  rw [hR, q3]
  refine zok_gl ⟨by omega, by omega⟩ (zok_gd ⟨by omega, by rw [q11]; omega⟩ (zok_lt ?_))
  rw [show zx (p + 1) = (p + 1).toNat from rfl, (hS.2.2.2.2.2.2.2.1 p hp).1, bLen_part hW v hp]
  refine zok_x2 (fun (w k : Int) => ∃ j : Nat, k = j ∧ j ≤ sN S ∧ w = lits (sB S p) + sumN (fun o => if sP S o = p then chgN (sC S o) (v (sF S o).toNat) else 0) j) (fun _ k => 60 - k.toNat) (fun kk w k hx ih => ?_) zFu _ _ ⟨0, rfl, by omega, by show _ = _ + ((0 : Nat) : Int); omega⟩ (by show 60 - 0 < 100000; omega)
  obtain ⟨j, rfl, hj, rfl⟩ := hx
  have hs : sumN (fun o => if sP S o = p then chgN (sC S o) (v (sF S o).toNat) else 0) j ≤ j * 1000000000000000 := sumN_le (fun i hi => by
    split
    · have := hW.2.2.2.1 i (by omega)
      have := hb (sF S i).toNat (by omega)
      have := chgN_le (sC S i) (v (sF S i).toNat)
      omega
    · omega)
  have hs2 : j * 1000000000000000 ≤ 60 * 1000000000000000 := Nat.mul_le_mul_right _ (by omega)
  unfold f4_measurePart_16
  rw [hR, q3, q8, hS.2.2.1, zx_nat]
  refine zok_if (fun h => zok_some (by rw [show sN S = j by omega]; omega)) (fun h => ?_)
  have hj2 : j < sN S := by omega
  have hx := hS.2.2.2.1 j hj2
  rw [hx.2.2.2.1]
  refine zok_gd ⟨by omega, by omega⟩ (zok_if (fun h2 => ?_) (fun h2 => ?_))
  · have g := hW.2.2.2.1 j hj2
    have hb1 := hb (sF S j).toNat (by omega)
    refine zok_co (v_chl ht hR hS hW hj2 (hv j hj2 h2) hb1) (fun r hr => ?_)
    have hc := chgN_le (sC S j) (v (sF S j).toNat)
    subst hr
    refine zok_gL ⟨by omega, by omega⟩ (zok_gl ⟨by omega, by omega⟩ (ih _ _ ⟨j + 1, by omega, by omega, ?_⟩ (by show 60 - ((j : Int) + 1).toNat < 60 - (j : Int).toNat; omega)))
    show _ = _ + ((sumN _ j + (if sP S j = p then chgN (sC S j) (v (sF S j).toNat) else 0) : Nat) : Int)
    rw [if_pos h2]; omega
  · refine zok_gl ⟨by omega, by omega⟩ (ih _ _ ⟨j + 1, by omega, by omega, ?_⟩ (by show 60 - ((j : Int) + 1).toNat < 60 - (j : Int).toNat; omega))
    show _ = _ + ((sumN _ j + (if sP S j = p then chgN (sC S j) (v (sF S j).toNat) else 0) : Nat) : Int)
    rw [if_neg h2]; omega
end vMeas
/-! the number of the bits of a set of fields -/
theorem bc_all : ∀ x, x < 1024 → fJ_bitCount ((x : Nat) : Int) = some ((cnt (fun i => mbit ((x : Nat) : Int) i) 10 : Nat) : Int) := by decide +kernel
theorem v_bc {x : Int} (hx : zr x) (h : ∀ i, 10 ≤ i → i < 32 → mbit x i = false) : zok (fJ_bitCount x) (fun r => r = cnt (fun i => mbit x i) 10) := by
  have h1 := mset_lt hx h
  have h2 := bc_all x.toNat (by omega)
  rw [show ((x.toNat : Nat) : Int) = x by omega] at h2
  rw [h2]
  exact zok_some rfl
