/-! THE CLASS'S VIEW: what it takes up, what it supposes -/
/-- the view has taken up the snippet t with these typed fields and texts -/
def vTk (μ0 m : zM) (t : Nat) (y : Int) (tx : Nat → List Int) : Prop :=
  zSm (fun k => k ≠ 200 ∧ k ≠ 201 ∧ k ≠ 207) μ0 m ∧ zR m 200 0 = t ∧ zI m 200 1 = y ∧ (∀ f, f < 10 → zI m 201 f = (tx f).length) ∧ ∀ f, f < 10 → ∀ i, i < (tx f).length → zI m 207 (400 * f + i) = (tx f).getD i 0
section vTake
variable {μ : zM} {c t l : Nat} {s : zSt}
theorem v_take (hc : okC c) (hS : pSt μ c s) (hW : wSt s) (hl : l < tD s) : zok (f4_take t c (l : Int) μ) (fun m => vTk μ m t (tY s l) (tX s l)) := by
  obtain ⟨c0, c1, c2, c3, c4, c5, c6⟩ := hc.f
  obtain ⟨l1, l2, l3, l4, l5, l6, l7, l8⟩ := zl_200s
  have hw := hW.2.1
  unfold f4_take
  refine zok_lt (zok_gd ⟨by omega, by omega⟩ (zok_lt ?_))
  simp only [zI_sR, zx_nat, (hS.2.2.2.1 l hl).2.2]
  refine zok_x2 (fun (x : Int) m => ∃ j : Nat, x = j ∧ j ≤ 10 ∧ zSm (fun k => k ≠ 200 ∧ k ≠ 201 ∧ k ≠ 207) μ m ∧ zR m 200 0 = t ∧ zI m 200 1 = tY s l ∧ (∀ f, f < j → zI m 201 f = (tX s l f).length) ∧ ∀ f, f < j → ∀ i, i < (tX s l f).length → zI m 207 (400 * f + i) = (tX s l f).getD i 0) (fun x _ => 10 - x.toNat) (fun kk x m hx ih => ?_) zFu _ _ ⟨0, rfl, by omega, (zSm.rf.sR (fun h => h.1 rfl)).sI (fun h => h.1 rfl), zR_eq rfl rfl, zI_eq rfl rfl, fun f hf => absurd hf (Nat.not_lt_zero f), fun f hf => absurd hf (Nat.not_lt_zero f)⟩ (by show 10 - 0 < 100000; omega)
  obtain ⟨j, rfl, hj, h1, h2, h3, h4, h5⟩ := hx
  unfold f4_take_18
  refine zok_if (fun h => zok_some ⟨h1, h2, h3, fun f hf => h4 f (by omega), fun f hf => h5 f (by omega)⟩) (fun h => ?_)
  have hj2 : j < 10 := by omega
  have hSm : pSt m c s := pSt_keep (fun k k1 k2 i => (h1 k (by omega) i).1) hS
  have a := hSm.2.2.2.2.1 l hl j hj2
  have hx40 := ((hW.2.2.2 l hl).2.2.2.2 j hj2).1
  refine zok_co (s_typedLength hc hSm hW hl hj2) (fun r hr => ?_)
  subst hr
  refine zok_gl ⟨by omega, by omega⟩ (zok_gl ⟨by omega, by omega⟩ (zok_gl ⟨by omega, by omega⟩ (zok_gd ⟨by omega, by omega⟩ (zok_lt (zok_gl ⟨by omega, by omega⟩ (zok_gd ⟨by omega, by omega, by omega, by omega, by omega⟩ (zok_lt (zok_gl ⟨by omega, by omega⟩ (ih _ _ ?_ (by show 10 - ((j : Int) + 1).toNat < 10 - (j : Int).toNat; omega))))))))))
  have e1 : zx (((l : Int) * 10 + j) * 40) = 40 * (10 * l + j) := by show (_ : Int).toNat = _; omega
  have e2 : zx ((j : Int) * 400) = 400 * j := by show (_ : Int).toNat = _; omega
  rw [e1, e2, zx_nat, zx_nat]
  refine ⟨j + 1, by omega, by omega, (h1.sI (fun h => h.2.1 rfl)).cI (fun h => h.2.2 rfl), h2, by rw [zcI_nk (by decide), zI_nk (by decide)]; exact h3, fun f hf => ?_, fun f hf i hi => ?_⟩
  · rw [zcI_nk (by decide)]
    by_cases e : f = j
    · subst e; exact zI_eq rfl rfl
    · rw [zI_ni e]; exact h4 f (by omega)
  · by_cases e : f = j
    · subst e
      rw [zcI_in rfl (by omega) (by omega), zI_nk (by omega), ← a.2 i hi]
      congr 1; omega
    · have hf40 := ((hW.2.2.2 l hl).2.2.2.2 f (by omega)).1
      rw [zcI_out (by omega), zI_nk (by decide)]
      exact h5 f (by omega) i hi
theorem v_bare : zok (f4_takeUntouched t μ) (fun m => zSm (fun k => k ≠ 200) μ m ∧ zR m 200 0 = t ∧ zI m 200 1 = 0) := by
  unfold f4_takeUntouched
  exact zok_lt (zok_lt (zok_some ⟨(zSm.rf.sR (fun h => h rfl)).sI (fun h => h rfl), zR_eq rfl rfl, zI_eq rfl rfl⟩))
theorem v_supp {f : Nat} (hf : f < 10) (n : Int) : zok (f4_supposeTyped (f : Int) n μ) (fun m => zSm (fun k => k ≠ 200 ∧ k ≠ 201) μ m ∧ zR m 200 0 = zR μ 200 0 ∧ zI m 200 1 = zor (zI μ 200 1) (zshl 1 (f : Nat)) ∧ ∀ i, zI m 201 i = if i = f then n else zI μ 201 i) := by
  obtain ⟨l1, l2, l3, l4, l5, l6, l7, l8⟩ := zl_200s
  unfold f4_supposeTyped
  refine zok_lt (zok_lt (zok_lt (zok_gd ⟨by omega, by omega⟩ (zok_lt (zok_some ⟨(zSm.rf.sI (fun h => h.1 rfl)).sI (fun h => h.2 rfl), rfl, by rw [zI_nk (by decide), zI_eq rfl rfl], fun i => ?_⟩)))))
  rw [zx_nat, zsI_at]
  by_cases e : i = f
  · rw [if_pos ⟨rfl, e⟩, if_pos e]
  · rw [if_neg (fun q => e q.2), if_neg e, zI_nk (by decide)]
theorem v_unsupp (f : Nat) : zok (f4_supposeNotTyped (f : Int) μ) (fun m => zSm (fun k => k ≠ 200) μ m ∧ zR m 200 0 = zR μ 200 0 ∧ zI m 200 1 = zand (zI μ 200 1) (zxor (zshl 1 (f : Nat)) (-1))) := by
  unfold f4_supposeNotTyped
  exact zok_lt (zok_lt (zok_lt (zok_lt (zok_some ⟨zSm.rf.sI (fun h => h rfl), rfl, zI_eq rfl rfl⟩))))
end vTake
/-! what a set becomes with a field more, a field less -/
theorem mb_on {y : Int} {f : Nat} (hf : f < 10) (i : Nat) : mbit (zor y (zshl 1 (f : Nat))) i = if i = f then true else mbit y i := by
  rw [mbit_or, mbit_shl (by omega) (by omega)]
  by_cases e : i = f
  · rw [if_pos e, decide_eq_true (by omega), Bool.or_true]
  · rw [if_neg e, decide_eq_false (by omega), Bool.or_false]
theorem mb_off {y : Int} {f : Nat} (hf : f < 10) (i : Nat) : mbit (zand y (zxor (zshl 1 (f : Nat)) (-1))) i = if i = f then false else mbit y i := by
  by_cases hi : i < 32
  · rw [mbit_and, mbit_not _ hi, mbit_shl (by omega) (by omega)]
    by_cases e : i = f
    · rw [if_pos e, decide_eq_true (by omega)]; simp
    · rw [if_neg e, decide_eq_false (by omega)]; simp
  · rw [mbit_hi (by omega), if_neg (by omega), mbit_hi (by omega)]
