/-! WHAT IS OPEN DEPENDS ON WHAT IS OPENED LATER -/
section dep
variable {S : zSn} {st : List Nat} {f : Nat}
theorem chain_in (h : chain S st) : ∀ x ∈ st, x < sN S ∧ sD S x = 1 := by
  induction st with
  | nil => intro x hx; cases hx
  | cons q r ih =>
    intro x hx
    rcases List.mem_cons.mp hx with e | e
    · rw [e]; exact ⟨h.1, h.2.1⟩
    · exact ih h.2.2.2 x e
theorem chain_dep (hW : wS S) : ∀ (st : List Nat) (q : Nat), chain S (q :: st) → ∀ x ∈ st, mbit (sE S (sF S x).toNat) (sF S q).toNat = true := by
  intro st
  induction st with
  | nil => intro q _ x hx; cases hx
  | cons y r ih =>
    intro q h x hx
    have hy : mbit (sE S (sF S y).toNat) (sF S q).toNat = true := hW.2.2.2.2.2.2.1 q y h.1 h.2.2.1
    rcases List.mem_cons.mp hx with e | e
    · rw [e]; exact hy
    · have h1 := ih y h.2.2.2 x e
      have hx' := chain_in h.2.2.2 x (List.mem_cons_of_mem y e)
      have hF := hW.2.2.2.1 x hx'.1
      have hFy := hW.2.2.2.1 y h.2.2.2.1
      exact (hW.2.2.2.2.2.1 _ (by omega)).2.2.2 _ _ h1 (by omega) hy
/-- turning back to any open field is turning back to the innermost one -/
theorem tbk_any (hW : wS S) (hc : chain S st) (hf : f < 10) : tbk S st f = true ↔ ∃ x ∈ st, f = (sF S x).toNat ∨ mbit (sE S f) (sF S x).toNat = true := by
  cases st with
  | nil => exact ⟨fun h => (by cases h), fun ⟨x, hx, _⟩ => (by cases hx)⟩
  | cons q r =>
    have e : tbk S (q :: r) f = (decide (f = (sF S q).toNat) || mbit (sE S f) (sF S q).toNat) := rfl
    rw [e, Bool.or_eq_true, decide_eq_true_eq]
    constructor
    · exact fun h => ⟨q, List.mem_cons_self, h⟩
    · rintro ⟨x, hx, h⟩
      rcases List.mem_cons.mp hx with e | e
      · rw [e] at h; exact h
      · have hd := chain_dep hW r q hc x e
        have hx' := chain_in hc x hx
        have hF := hW.2.2.2.1 x hx'.1
        rcases h with h | h
        · rw [h]; exact Or.inr hd
        · exact Or.inr ((hW.2.2.2.2.2.1 f hf).2.2.2 _ _ h (by omega) hd)
end dep
