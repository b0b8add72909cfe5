/-! THE START: the memory behind the makers, and what the tables and the narrowing say -/
set_option maxRecDepth 20000 in
theorem muF_top : zTop muF := by
  have h : ∀ k, k < 341 → ∀ j, j < (zTpL.getD k []).length → ztp k j ≠ 0 → zR muF k j = ztp k j := by decide +kernel
  have hl : zTpL.length ≤ 341 := by decide +kernel
  intro k j h0
  by_cases hk : k < 341
  · by_cases hj : j < (zTpL.getD k []).length
    · exact h k hk j hj h0
    · exact absurd (by unfold ztp; rw [List.getD_eq_getElem?_getD (l := zTpL.getD k []), List.getElem?_eq_none (by omega)]; rfl) h0
  · exact absurd (by unfold ztp; rw [List.getD_eq_getElem?_getD (l := zTpL), List.getElem?_eq_none (by omega)]; rfl) h0
set_option maxRecDepth 20000 in
theorem muF_wt : zWT muF := by
  intro k j h
  by_cases e1 : k = 1 ∧ j = 2
  · obtain ⟨rfl, rfl⟩ := e1; exact (by decide +kernel : zkd (zR muF 1 2) = zwk 1 2)
  by_cases e2 : k = 99 ∧ j = 0
  · obtain ⟨rfl, rfl⟩ := e2; exact (by decide +kernel : zkd (zR muF 99 0) = zwk 99 0)
  by_cases e3 : k = 99 ∧ j = 3
  · obtain ⟨rfl, rfl⟩ := e3; exact (by decide +kernel : zkd (zR muF 99 3) = zwk 99 3)
  by_cases e4 : k = 99 ∧ j = 4
  · obtain ⟨rfl, rfl⟩ := e4; exact (by decide +kernel : zkd (zR muF 99 4) = zwk 99 4)
  by_cases e5 : k = 200 ∧ j = 0
  · obtain ⟨rfl, rfl⟩ := e5; exact (by decide +kernel : zkd (zR muF 200 0) = zwk 200 0)
  by_cases e6 : k = 292 ∧ j = 8
  · obtain ⟨rfl, rfl⟩ := e6; exact (by decide +kernel : zkd (zR muF 292 8) = zwk 292 8)
  by_cases e7 : k = 292 ∧ j = 13
  · obtain ⟨rfl, rfl⟩ := e7; exact (by decide +kernel : zkd (zR muF 292 13) = zwk 292 13)
  exact absurd (by unfold zwk; rw [if_neg e1, if_neg e2, if_neg e3, if_neg e4, if_neg e5, if_neg e6, if_neg e7]) h
set_option maxRecDepth 20000 in
theorem muF_I (k i : Nat) : zI muF k i = if k = 292 ∧ i = 12 then -1 else if k = 1 ∧ i = 5 then -1 else 0 := rfl
set_option maxRecDepth 20000 in
theorem muF_L (k i : Nat) : zL muF k i = 0 := rfl
theorem muF_0 {k i : Nat} (h1 : ¬ (k = 292 ∧ i = 12)) (h2 : ¬ (k = 1 ∧ i = 5)) : zI muF k i = 0 := by rw [muF_I, if_neg h1, if_neg h2]
theorem muF_rg : zRg muF := by
  refine ⟨fun k i => ?_, fun k i => by rw [muF_L]; exact ⟨by decide, by decide⟩⟩
  rw [muF_I]
  by_cases h1 : k = 292 ∧ i = 12
  · rw [if_pos h1]; exact ⟨by decide, by decide⟩
  · rw [if_neg h1]
    by_cases h2 : k = 1 ∧ i = 5
    · rw [if_pos h2]; exact ⟨by decide, by decide⟩
    · rw [if_neg h2]; exact ⟨by decide, by decide⟩
def A00 : zA := (0, fun _ => nwS [], stNew 0, [], fun _ => none, [], (0, -1), fun _ => 0)
theorem A00_lv : wLv 0 (fun _ => nwS []) (stNew 0) := ⟨⟨Or.inl rfl, Nat.zero_le _, Nat.zero_le _, fun l hl => absurd hl (Nat.not_lt_zero l)⟩, fun l hl => absurd hl (Nat.not_lt_zero l)⟩
set_option maxRecDepth 20000 in
theorem muF_LI : LI 0 A00 muF := by
  refine ⟨⟨⟨Nat.zero_le _, fun k hk => absurd hk (Nat.not_lt_zero k)⟩, A00_lv, ⟨Nat.zero_le _, fun s hs => (by cases hs)⟩, fun j s h => (by cases h), ⟨Nat.zero_le _, fun x hx => (by cases hx)⟩, fun i _ => ⟨Int.le_refl _, Int.le_refl _⟩⟩, fun i j _ hj => absurd hj (Nat.not_lt_zero j), ?_, ?_⟩
  · refine ⟨⟨7, Or.inl rfl, (by decide +kernel : zR muF 1 2 = 7), (by decide +kernel : zR muF 99 3 = 108 - 7), muF_0 (by omega) (by omega), fun k hk => absurd hk (Nat.not_lt_zero k)⟩, ⟨muF_0 (by omega) (by omega), muF_0 (by omega) (by omega), muF_0 (by omega) (by omega), fun l hl => absurd hl (Nat.not_lt_zero l), fun l hl => absurd hl (Nat.not_lt_zero l), fun i hi => absurd hi (Nat.not_lt_zero i)⟩, ⟨muF_0 (by omega) (by omega), fun i hi => absurd hi (Nat.not_lt_zero i)⟩, ⟨muF_0 (by omega) (by omega), by rw [muF_I]; rfl⟩, fun i _ => muF_0 (by omega) (by omega), ⟨0, by decide, muF_0 (by omega) (by omega), muF_0 (by omega) (by omega), fun j s h => (by cases h)⟩, fun j _ => Or.inl ⟨muF_0 (by omega) (by omega), rfl⟩⟩
  · refine ⟨⟨299, Or.inl rfl, (by decide +kernel : zR muF 292 8 = 299), (by decide +kernel : zR muF 292 13 = 613 - 299), muF_0 (by omega) (by omega), fun k hk => absurd hk (Nat.not_lt_zero k)⟩, ⟨muF_0 (by omega) (by omega), muF_0 (by omega) (by omega), muF_0 (by omega) (by omega), fun i hi => absurd hi (Nat.not_lt_zero i), fun l hl => absurd hl (Nat.not_lt_zero l)⟩, ⟨muF_0 (by omega) (by omega), fun i hi => absurd hi (Nat.not_lt_zero i)⟩, ⟨muF_0 (by omega) (by omega), by rw [muF_I]; rfl⟩, fun i _ => muF_0 (by omega) (by omega), ⟨muF_0 (by omega) (by omega), fun j s h => (by cases h)⟩, fun j _ => Or.inl ⟨muF_0 (by omega) (by omega), rfl⟩⟩
