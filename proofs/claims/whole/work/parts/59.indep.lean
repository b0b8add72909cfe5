/-! Typing a field, or no longer typing it, changes nothing of what doesn't lie in its own default -/
theorem vSt_indep {S : zSn} (hW : wS S) {ty ty2 : Nat → Bool} {f : Nat} (hf : f < 10) (he : ∀ g, g ≠ f → ty g = ty2 g) : ∀ k, k ≤ sN S → ∀ g, g ≠ f → g < 10 → mbit (sE S f) g = false → (vSt S ty k).2 g = (vSt S ty2 k).2 g := by
  have here : ∀ k, k < sN S → (∀ g, g ≠ f → g < 10 → mbit (sE S f) g = false → (vSt S ty k).2 g = (vSt S ty2 k).2 g) → mbit (sE S f) (sF S k).toNat = false → vHere S (vSt S ty k) k = vHere S (vSt S ty2 k) k := by
    intro k hk ih hb
    unfold vHere
    rcases hW.2.2.2.2.1 k hk with h | ⟨q, h1, h2, h3, -⟩
    · rw [h.1]; rfl
    · have hd := hW.2.2.2.2.2.2.1 k q hk h1
      have hq := hW.2.2.2.1 q (by omega)
      have hk9 := hW.2.2.2.1 k hk
      have e1 : (sF S q).toNat ≠ f := fun h => by
        rw [h, hb] at hd
        cases hd
      have e2 : mbit (sE S f) (sF S q).toNat = false := by
        cases h9 : mbit (sE S f) (sF S q).toNat with
        | false => rfl
        | true =>
          have := (hW.2.2.2.2.2.1 f hf).2.2.2 _ _ h9 (by omega) hd
          rw [this] at hb
          cases hb
      rw [h1, show ((q : Int)).toNat = q from rfl, ih _ e1 (by omega) e2]
  intro k
  induction k with
  | zero => intro _ g _ _ _; rfl
  | succ k ih =>
    intro hk g g1 g2 g3
    have ih := ih (by omega)
    have h1 : (vSt S ty (k + 1)).2 g = (if vDef S ty (vSt S ty k) k then updI (vSt S ty k).2 (sF S k).toNat k else (vSt S ty k).2) g := rfl
    have h2 : (vSt S ty2 (k + 1)).2 g = (if vDef S ty2 (vSt S ty2 k) k then updI (vSt S ty2 k).2 (sF S k).toNat k else (vSt S ty2 k).2) g := rfl
    have h3 := ih g g1 g2 g3
    rw [h1, h2]
    by_cases e : (sF S k).toNat = g
    · have e9 : vDef S ty (vSt S ty k) k = vDef S ty2 (vSt S ty2 k) k := by
        unfold vDef
        rw [here k (by omega) ih (by rw [e]; exact g3), e, he g g1, h3]
      rw [e9]
      by_cases e8 : vDef S ty2 (vSt S ty2 k) k = true
      · rw [if_pos e8, if_pos e8, e]; unfold updI; rw [if_pos rfl, if_pos rfl]
      · rw [if_neg e8, if_neg e8]; exact h3
    · have u : ∀ (s : Nat → Int) (c : Bool), (if c = true then updI s (sF S k).toNat k else s) g = s g := fun s c => by
        cases c with
        | true => rw [if_pos rfl]; unfold updI; rw [if_neg (fun h => e h.symm)]
        | false => rw [if_neg (by decide)]
      rw [u, u]; exact h3
