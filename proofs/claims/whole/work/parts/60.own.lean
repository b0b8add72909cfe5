/-! whether a field's own occurrences are shown doesn't hang on its being typed -/
theorem vSh_indep {S : zSn} (hW : wS S) {ty ty2 : Nat → Bool} {f : Nat} (hf : f < 10) (he : ∀ g, g ≠ f → ty g = ty2 g) {o : Nat} (ho : o < sN S) (hb : mbit (sE S f) (sF S o).toNat = false) : vSh S ty o = vSh S ty2 o := by
  have key : vSh S ty o = true ↔ vSh S ty2 o = true := by
    rw [vSh_iff hW ty ho, vSh_iff hW ty2 ho]
    have e : ∀ q : Nat, sP S o = q → q < o → vSd S ty (sF S q).toNat = vSd S ty2 (sF S q).toNat := by
      intro q h1 h2
      have hd := hW.2.2.2.2.2.2.1 o q ho h1
      have hq := hW.2.2.2.1 q (by omega)
      have ho9 := hW.2.2.2.1 o ho
      have e1 : (sF S q).toNat ≠ f := fun h => by
        rw [h, hb] at hd
        cases hd
      have e2 : mbit (sE S f) (sF S q).toNat = false := by
        cases h9 : mbit (sE S f) (sF S q).toNat with
        | false => rfl
        | true =>
          have := (hW.2.2.2.2.2.1 f hf).2.2.2 _ _ h9 (by omega) hd
          rw [this] at hb
          cases hb
      exact vSt_indep hW hf he (sN S) (Nat.le_refl _) _ e1 (by omega) e2
    exact ⟨fun h => h.imp id (fun ⟨q, h1, h2, h3⟩ => ⟨q, h1, h2, by rw [← e q h1 h2]; exact h3⟩), fun h => h.imp id (fun ⟨q, h1, h2, h3⟩ => ⟨q, h1, h2, by rw [e q h1 h2]; exact h3⟩)⟩
  cases h1 : vSh S ty o with
  | true => exact (key.1 h1).symm
  | false =>
    cases h2 : vSh S ty2 o with
    | false => rfl
    | true => rw [key.2 h2] at h1; cases h1
theorem vSh_own {S : zSn} (hW : wS S) {ty ty2 : Nat → Bool} {f : Nat} (hf : f < 10) (he : ∀ g, g ≠ f → ty g = ty2 g) {o : Nat} (ho : o < sN S) (hb : (sF S o).toNat = f) : vSh S ty o = vSh S ty2 o :=
  vSh_indep hW hf he ho (by rw [hb]; exact (hW.2.2.2.2.2.1 f hf).2.1)
theorem vLv_own {S : zSn} (hW : wS S) {ty ty2 : Nat → Bool} {f : Nat} (hf : f < 10) (he : ∀ g, g ≠ f → ty g = ty2 g) : vLv S ty f = vLv S ty2 f := by
  unfold vLv
  have e : (∃ o, o < sN S ∧ vSh S ty o = true ∧ sF S o = f) ↔ (∃ o, o < sN S ∧ vSh S ty2 o = true ∧ sF S o = f) :=
    ⟨fun ⟨o, h1, h2, h3⟩ => ⟨o, h1, by rw [← vSh_own hW hf he h1 (by omega)]; exact h2, h3⟩, fun ⟨o, h1, h2, h3⟩ => ⟨o, h1, by rw [vSh_own hW hf he h1 (by omega)]; exact h2, h3⟩⟩
  exact decide_eq_decide.2 e
