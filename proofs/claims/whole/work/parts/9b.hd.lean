/-! THE CLASS'S READER: the head of a snippet -/
section hd
variable {b : List Int} {p t : Nat} {μ m : zM}
theorem c_clear (ht : okT t) {s : Int} (hs : zr s) : zok (f2_clear t s μ) (fun m => zSm (fun c => c ≠ t ∧ c ≠ t + 7 ∧ c ≠ t + 8) μ m ∧ zI m t 2 = 0 ∧ zI m t 3 = 0 ∧ zI m t 15 = s ∧ zI m t 16 = s ∧ (∀ f, f < 10 → zI m (t + 7) f = 0) ∧ ∀ q, q ≤ 60 → zI m (t + 8) q = 0) := by
  obtain ⟨q1, q2, q3, q4, qa, qb, qc, qd, qe, qf, qg, -⟩ := ht.f
  unfold f2_clear
  refine zok_lt (zok_lt (zok_lt (zok_lt ?_)))
  generalize hm0 : zsI (zsI (zsI (zsI μ t 2 0) t 3 0) t 15 s) t 16 s = m0
  have f0 : zSm (fun c => c ≠ t ∧ c ≠ t + 7 ∧ c ≠ t + 8) μ m0 := by rw [← hm0]; exact (((zSm.rf.sI (fun q => q.1 rfl)).sI (fun q => q.1 rfl)).sI (fun q => q.1 rfl)).sI (fun q => q.1 rfl)
  have e2 : zI m0 t 2 = 0 := by rw [← hm0, zI_ni (by decide), zI_ni (by decide), zI_ni (by decide), zI_eq rfl rfl]
  have e3 : zI m0 t 3 = 0 := by rw [← hm0, zI_ni (by decide), zI_ni (by decide), zI_eq rfl rfl]
  have e15 : zI m0 t 15 = s := by rw [← hm0, zI_ni (by decide), zI_eq rfl rfl]
  have e16 : zI m0 t 16 = s := by rw [← hm0, zI_eq rfl rfl]
  refine zok_x2 (fun (x : Int) m => ∃ j : Nat, x = j ∧ j ≤ 10 ∧ zSm (fun c => c ≠ t + 7) m0 m ∧ ∀ f, f < j → zI m (t + 7) f = 0) (fun x _ => 10 - x.toNat) (fun kk x m hx ih => ?_) zFu 0 m0 ⟨0, rfl, by omega, zSm.rf, fun f hf => absurd hf (Nat.not_lt_zero f)⟩ (by show 10 - 0 < 100000; omega)
  obtain ⟨j, rfl, j1, j2, j3⟩ := hx
  unfold f2_clear_22
  rw [q3, qf]
  refine zok_if (fun c => ?_) (fun c => zok_gd ⟨by omega, by omega⟩ (zok_lt (zok_gl ⟨by omega, by omega⟩ (ih _ _ ⟨j + 1, by omega, by omega, j2.sI (fun q => q rfl), fun f hf => ?_⟩ (by show 10 - ((j : Int) + 1).toNat < 10 - (j : Int).toNat; omega)))))
  · refine zok_x2 (fun (x : Int) m' => ∃ i : Nat, x = i ∧ i ≤ 61 ∧ zSm (fun c => c ≠ t + 8) m m' ∧ ∀ q, q < i → zI m' (t + 8) q = 0) (fun x _ => 61 - x.toNat) (fun kk x m' hx ih => ?_) zFu 0 m ⟨0, rfl, by omega, zSm.rf, fun f hf => absurd hf (Nat.not_lt_zero f)⟩ (by show 61 - 0 < 100000; omega)
    obtain ⟨i, rfl, i1, i2, i3⟩ := hx
    unfold f2_clear_43
    rw [q3, qg]
    refine zok_if (fun c => zok_some ?_) (fun c => zok_gd ⟨by omega, by omega⟩ (zok_lt (zok_gl ⟨by omega, by omega⟩ (ih _ _ ⟨i + 1, by omega, by omega, i2.sI (fun q => q rfl), fun f hf => ?_⟩ (by show 61 - ((i : Int) + 1).toNat < 61 - (i : Int).toNat; omega)))))
    · have e : ∀ i, zI m' t i = zI m0 t i := fun i => ((i2 t (by omega) i).1).trans (j2 t (by omega) i).1
      exact ⟨(f0.tr (j2.mono (fun c hc => hc.2.1))).tr (i2.mono (fun c hc => hc.2.2)), (e 2).trans e2, (e 3).trans e3, (e 15).trans e15, (e 16).trans e16, fun f hf => ((i2 (t + 7) (by omega) f).1).trans (j3 f (by omega)), fun q hq => i3 q (by omega)⟩
    · rw [zx_nat]
      by_cases e : f = i
      · rw [zI_eq rfl e]
      · rw [zI_ni e]; exact i3 f (by omega)
  · rw [zx_nat]
    by_cases e : f = j
    · rw [zI_eq rfl e]
    · rw [zI_ni e]; exact j3 f (by omega)
theorem c_setName (ht : okT t) {r a k : Nat} (hk : k ≤ 8) (hz : a + k ≤ zln r) (hr : zln r ≤ 100000) (hrt : r ≠ t ∧ r ≠ t + 1) : zok (f2_setName t r (a : Int) (k : Int) μ) (fun m => zSm (fun c => c ≠ t ∧ c ≠ t + 1) μ m ∧ (∀ i, i ≠ 1 → zI m t i = zI μ t i) ∧ zI m t 1 = k ∧ ∀ i, i < k → zI m (t + 1) i = zI μ r (a + i)) := by
  obtain ⟨q1, q2, q3, q4, -⟩ := ht.f
  unfold f2_setName
  refine zok_lt (zok_lt ?_)
  rw [show min (k : Int) 8 = (k : Int) by omega]
  refine zok_x2 (fun (x : Int) m => ∃ j : Nat, x = j ∧ j ≤ k ∧ zSm (fun c => c ≠ t ∧ c ≠ t + 1) μ m ∧ (∀ i, i ≠ 1 → zI m t i = zI μ t i) ∧ zI m t 1 = k ∧ ∀ i, i < j → zI m (t + 1) i = zI μ r (a + i)) (fun x _ => k - x.toNat) (fun kk x m hx ih => ?_) zFu 0 _ ⟨0, rfl, by omega, zSm.rf.sI (fun q => q.1 rfl), fun i hi => zI_ni hi, zI_eq rfl rfl, fun i hi => absurd hi (Nat.not_lt_zero i)⟩ (by show k - 0 < 100000; omega)
  obtain ⟨j, rfl, j1, j2, j3, j4, j5⟩ := hx
  unfold f2_setName_13
  rw [j4, q3, q4]
  refine zok_if (fun c => zok_some ⟨j2, j3, j4, fun i hi => j5 i (by omega)⟩) (fun c => zok_gl ⟨by omega, by omega⟩ (zok_gd ⟨by omega, by omega⟩ (zok_gd ⟨by omega, by omega⟩ (zok_lt (zok_gl ⟨by omega, by omega⟩ ?_)))))
  rw [zx_nat, show zx ((a : Int) + (j : Int)) = a + j from by show (_ : Int).toNat = _; omega, (j2 r ⟨hrt.1, hrt.2⟩ (a + j)).1]
  refine ih _ _ ⟨j + 1, by omega, by omega, j2.sI (fun q => q.2 rfl), fun i hi => (zI_nk (by omega)).trans (j3 i hi), (zI_nk (by omega)).trans j4, fun i hi => ?_⟩ (by show k - ((j : Int) + 1).toNat < k - (j : Int).toNat; omega)
  by_cases e : i = j
  · rw [zI_eq rfl e, e]
  · rw [zI_ni e]; exact j5 i (by omega)
/-- a snippet begins: nothing read yet -/
theorem pC_nw {nm : List Int} (hn : nm.length ≤ 8) {s : Int} (hs : 0 ≤ s ∧ s ≤ 700) (h1 : zI μ t 1 = nm.length) (hnm : ∀ i, i < nm.length → zI μ (t + 1) i = nm.getD i 0) (h2 : zI μ t 2 = 0) (h3 : zI μ t 3 = 0) (h15 : zI μ t 15 = s) (h16 : zI μ t 16 = s) (h7 : ∀ f, f < 10 → zI μ (t + 7) f = 0) (h8 : ∀ q, q ≤ 60 → zI μ (t + 8) q = 0) : pC μ t (nwS nm) [] := by
  have eN : sN (nwS nm) = 0 := rfl
  have eT : sT (nwS nm) = 0 := rfl
  refine ⟨h1, hnm, h2, fun o ho => absurd ho (Nat.not_lt_zero o), h7, ⟨by rw [h3]; exact ⟨by decide, by decide⟩, fun i hi => ?_⟩, ⟨by omega, by omega, by omega, by rw [eN, eT]; omega⟩, fun q hq => h8 q hq, fun p hp => ?_, fun o ho => absurd ho (Nat.not_lt_zero o)⟩
  · rw [h3, mbit_0]
    symm
    exact decide_eq_false (fun ⟨o, ho, _⟩ => absurd ho (Nat.not_lt_zero o))
  · rcases hp with e | ⟨o, -, ho, -⟩
    · subst e
      have e1 : cFirst μ t (-1) = s := by unfold cFirst; rw [if_pos rfl, h15]
      have e2 : cEndO μ t [] (-1) = s := by unfold cEndO; rw [if_pos (opns_mem.mpr (Or.inl rfl)), h16]
      rw [e1, e2, h16, Int.sub_self]
      exact ⟨hs.1, Int.le_refl _, Int.le_refl _, rfl⟩
    · exact absurd ho (Nat.not_lt_zero o)
end hd
