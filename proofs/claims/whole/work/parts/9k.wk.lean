/-! WALKS OVER THE REFERENCE'S ITEMS -/
theorem pWk_app {μ : zM} {b k : Nat} {e e' : Int} (he : e ≤ e') {l' : List Int} (h' : pWk μ b k e e' l') : ∀ (l : List Int) (a : Int), pWk μ b k a e l → pWk μ b k a e' (l ++ l') := by
  intro l
  induction l with
  | nil => intro a h; rw [show a = e from h]; exact h'
  | cons x l ih =>
    intro a h
    obtain ⟨h0, h1, h2⟩ := h
    refine ⟨h0, by omega, ?_⟩
    rcases h2 with ⟨c1, c2, c3⟩ | ⟨c1, c2, c3, c4⟩
    · exact Or.inl ⟨c1, c2, ih _ c3⟩
    · exact Or.inr ⟨c1, c2, c3, ih _ c4⟩
theorem pWk_lo {μ m : zM} {b k : Nat} {e : Int} : ∀ (l : List Int) (a : Int), (∀ i : Nat, (i : Int) < e → zI m (b + 4) i = zI μ (b + 4) i) → (∀ x ∈ l, x < 0 → zI m (b + 10) (60 * k + (-x - 1).toNat) = zI μ (b + 10) (60 * k + (-x - 1).toNat) ∧ zI m (b + 11) (60 * k + (-x - 1).toNat) = zI μ (b + 11) (60 * k + (-x - 1).toNat)) → pWk μ b k a e l → pWk m b k a e l := by
  intro l
  induction l with
  | nil => intro a _ _ h; exact h
  | cons x l ih =>
    intro a h4 ho h
    obtain ⟨h0, h1, h2⟩ := h
    refine ⟨h0, h1, ?_⟩
    have e4 := h4 a.toNat (by omega)
    rcases h2 with ⟨c1, c2, c3⟩ | ⟨c1, c2, c3, c4⟩
    · exact Or.inl ⟨c1, e4.trans c2, ih _ h4 (fun y hy => ho y (List.mem_cons_of_mem x hy)) c3⟩
    · obtain ⟨g1, g2⟩ := ho x List.mem_cons_self c1
      refine Or.inr ⟨c1, e4.trans c2, by rw [g1, g2]; exact c3, ?_⟩
      rw [g2]
      exact ih _ h4 (fun y hy => ho y (List.mem_cons_of_mem x hy)) c4
