/-! WHAT IS READ IS WELL FORMED -/
theorem occs_app (l m : List Int) : occs (l ++ m) = occs l ++ occs m := by unfold occs; rw [List.filterMap_append]
theorem lits_app (l m : List Int) : lits (l ++ m) = lits l + lits m := by unfold lits; rw [List.filter_append, List.length_append]
def wBu (p : Nat) (S : zSn) (st : List Nat) : Prop := wS S ∧ chain S st ∧ st.length ≤ 4 ∧ (∀ q, isPart S q → (lits (sB S q) : Int) ≤ sT S) ∧ (∀ q, ¬ isPart S q → sB S q = []) ∧ sT S ≤ p
section bu
variable {p p' : Nat} {S : zSn} {st : List Nat} {v : Int} {f : Nat}
theorem wBu.le (h : wBu p S st) (hp : p ≤ p') : wBu p' S st := ⟨h.1, h.2.1, h.2.2.1, h.2.2.2.1, h.2.2.2.2.1, Int.le_trans h.2.2.2.2.2 (by omega)⟩
theorem wBu.pop {q : Nat} (h : wBu p S (q :: st)) : wBu p S st := ⟨h.1, h.2.1.2.2.2, by have := h.2.2.1; rw [List.length_cons] at this; omega, h.2.2.2.1, h.2.2.2.2.1, h.2.2.2.2.2⟩
theorem chain_part (h : chain S st) : isPart S (opn st) := by
  cases st with
  | nil => exact Or.inl rfl
  | cons q r => exact Or.inr ⟨q, rfl, h.1, h.2.1⟩
theorem chain_G (hW : wS S) : ∀ (st : List Nat) (q : Nat), chain S (q :: st) → sG S q = st.length := by
  intro st
  induction st with
  | nil =>
    intro q h
    rcases hW.2.2.2.2.1 q h.1 with ⟨h1, h2⟩ | ⟨q', h1, h2, h3, h4⟩
    · rw [h2]; rfl
    · have := h.2.2.1; rw [h1] at this; have e : opn [] = -1 := rfl; omega
  | cons x r ih =>
    intro q h
    have e : sP S q = (x : Nat) := h.2.2.1
    rcases hW.2.2.2.2.1 q h.1 with ⟨h1, h2⟩ | ⟨q', h1, h2, h3, h4⟩
    · omega
    · have : q' = x := by omega
      subst this
      rw [h4, ih q' h.2.2.2, List.length_cons]; omega
theorem chain_congr {S' : zSn} (hN : sN S ≤ sN S') (hD : ∀ o, o < sN S → sD S o = 1 → sD S' o = 1) (hP : ∀ o, o < sN S → sP S' o = sP S o) : ∀ st, chain S st → chain S' st := by
  intro st
  induction st with
  | nil => exact fun h => h
  | cons q r ih => exact fun h => ⟨Nat.lt_of_lt_of_le h.1 hN, hD q h.1 h.2.1, (hP q h.1).trans h.2.2.1, ih h.2.2.2⟩
theorem wBu.nw {nm : List Int} (h1 : 1 ≤ nm.length) (h2 : nm.length ≤ 8) (h3 : ∀ i, i < nm.length → 97 ≤ nm.getD i 0 ∧ nm.getD i 0 ≤ 122) (p : Nat) : wBu p (nwS nm) [] := by
  refine ⟨⟨Nat.zero_le _, h2, h1, fun o ho => absurd ho (Nat.not_lt_zero o), fun o ho => absurd ho (Nat.not_lt_zero o), fun f hf => ⟨(show zr 0 from ⟨by decide, by decide⟩), mbit_0 f, fun i _ _ => mbit_0 i, fun g h hg => ?_⟩, fun o q ho => absurd ho (Nat.not_lt_zero o), fun q hq => ⟨rfl, ⟨fun x hx => (by cases hx), Nat.zero_le _⟩⟩, Int.le_refl _, by show (0 : Int) ≤ 700; decide, h3⟩, trivial, Nat.zero_le _, fun q hq => Int.le_refl _, fun q hq => rfl, by show (0 : Int) ≤ p; omega⟩
  have hg' : mbit 0 g = true := hg
  rw [mbit_0] at hg'; cases hg'
theorem wBu.lit (h : wBu p S st) (h0 : 0 ≤ v) (h1 : v ≤ 255) (hp : p + 1 ≤ p') (h7 : p' ≤ 700) : wBu p' (adL S (opn st) v) st := by
  obtain ⟨⟨w1, w2, w3, w4, w5, w6, w7, w8, w9, w10, w11⟩, hc, hl, hT, hB, hp0⟩ := h
  have eB : ∀ q, sB (adL S (opn st) v) q = if q = opn st then sB S (opn st) ++ [v] else sB S q := fun q => rfl
  have eo : occs [v] = [] := by unfold occs; rw [List.filterMap_cons, if_neg (by omega)]; rfl
  have el : lits [v] = 1 := by unfold lits; rw [List.filter_cons, if_pos (by rw [decide_eq_true_eq]; omega)]; rfl
  have hlit : ∀ q, isPart S q → (lits (sB (adL S (opn st) v) q) : Int) ≤ sT S + 1 := fun q hq => by
    rw [eB]
    by_cases e : q = opn st
    · rw [if_pos e, lits_app, el, ← e]; have := hT q hq; omega
    · rw [if_neg e]; have := hT q hq; omega
  have hTe : sT (adL S (opn st) v) = sT S + 1 := rfl
  refine ⟨⟨w1, w2, w3, w4, w5, w6, w7, fun q hq => ?_, by rw [hTe]; omega, by rw [hTe]; omega, w11⟩, chain_congr (S := S) (S' := adL S (opn st) v) (Nat.le_refl _) (fun o _ h => h) (fun o _ => rfl) st hc, hl, hlit, fun q hq => ?_, by rw [hTe]; omega⟩
  · have hq' : isPart S q := hq
    obtain ⟨a1, a2, a3⟩ := w8 q hq'
    refine ⟨?_, ?_, by have := hlit q hq'; omega⟩
    · show occs (sB (adL S (opn st) v) q) = (List.range (sN S)).filter (fun o => decide (sP S o = q))
      rw [eB]
      by_cases e : q = opn st
      · rw [if_pos e, occs_app, eo, List.append_nil, ← e]; exact a1
      · rw [if_neg e]; exact a1
    · rw [eB]
      by_cases e : q = opn st
      · rw [if_pos e, ← e]
        intro x hx
        rcases List.mem_append.mp hx with y | y
        · exact a2 x y
        · rw [List.mem_singleton.mp y]; omega
      · rw [if_neg e]; exact a2
  · have hne : q ≠ opn st := fun e => hq (show isPart S q by rw [e]; exact chain_part hc)
    rw [eB, if_neg hne]; exact hB q hq
/-- a field that is put in does not turn back -/
theorem tbk_no {q : Nat} {r : List Nat} (h : tbk S (q :: r) f = false) : f ≠ (sF S q).toNat ∧ mbit (sE S f) (sF S q).toNat = false := by
  have h' : (decide (f = (sF S q).toNat) || mbit (sE S f) (sF S q).toNat) = false := h
  rw [Bool.or_eq_false_iff, decide_eq_false_iff_not] at h'
  exact h'
theorem adE_w {E : Nat → Int} {g : Nat} (hE : ∀ f, f < 10 → zr (E f) ∧ mbit (E f) f = false ∧ (∀ i, 10 ≤ i → i < 32 → mbit (E f) i = false) ∧ ∀ g h, mbit (E f) g = true → g < 10 → mbit (E g) h = true → mbit (E f) h = true) (hf : f < 10) (hg : g < 10) (h1 : f ≠ g) (h2 : mbit (E f) g = false) :
    (∀ h x, mbit (adE E f g h) x = true ↔ mbit (E h) x = true ∨ ((h = g ∨ mbit (E h) g = true) ∧ (x = f ∨ mbit (E f) x = true))) ∧
    ∀ h, h < 10 → zr (adE E f g h) ∧ mbit (adE E f g h) h = false ∧ (∀ i, 10 ≤ i → i < 32 → mbit (adE E f g h) i = false) ∧ ∀ x y, mbit (adE E f g h) x = true → x < 10 → mbit (adE E f g x) y = true → mbit (adE E f g h) y = true := by
  have hb : ∀ h x, mbit (adE E f g h) x = true ↔ mbit (E h) x = true ∨ ((h = g ∨ mbit (E h) g = true) ∧ (x = f ∨ mbit (E f) x = true)) := fun h x => by
    unfold adE
    by_cases c : h = g ∨ mbit (E h) g = true
    · rw [if_pos c, mbit_or, mbit_or, mbit_shl (by omega) (by omega), Bool.or_eq_true, Bool.or_eq_true, decide_eq_true_eq]
      constructor
      · rintro (a | a | a)
        · exact Or.inl a
        · exact Or.inr ⟨c, Or.inr a⟩
        · exact Or.inr ⟨c, Or.inl (by omega)⟩
      · rintro (a | ⟨-, a | a⟩)
        · exact Or.inl a
        · exact Or.inr (Or.inr (by omega))
        · exact Or.inr (Or.inl a)
    · rw [if_neg c]
      exact ⟨Or.inl, fun a => a.resolve_right (fun q => c q.1)⟩
  refine ⟨hb, fun h hh => ?_⟩
  obtain ⟨e1, e2, e3, e4⟩ := hE h hh
  obtain ⟨k1, k2, k3, k4⟩ := hE f hf
  refine ⟨?_, ?_, fun i i1 i2 => ?_, fun x y hx hx10 hy => ?_⟩
  · unfold adE; split
    · exact zr_of _
    · exact e1
  · rw [Bool.eq_false_iff]
    intro c
    rcases (hb h h).mp c with a | ⟨a, b⟩
    · rw [e2] at a; cases a
    · rcases b with b | b
      · subst b
        rcases a with a | a
        · exact h1 a
        · rw [h2] at a; cases a
      · rcases a with a | a
        · subst a; rw [h2] at b; cases b
        · have := k4 h g b hh a; rw [h2] at this; cases this
  · rw [Bool.eq_false_iff]
    intro c
    rcases (hb h i).mp c with a | ⟨a, b⟩
    · rw [e3 i i1 i2] at a; cases a
    · rcases b with b | b
      · omega
      · rw [k3 i i1 i2] at b; cases b
  · obtain ⟨x1, x2, x3, x4⟩ := hE x hx10
    rcases (hb h x).mp hx with a | ⟨a, b⟩
    · rcases (hb x y).mp hy with c | ⟨c, d⟩
      · exact (hb h y).mpr (Or.inl (e4 x y a hx10 c))
      · refine (hb h y).mpr (Or.inr ⟨?_, d⟩)
        rcases c with c | c
        · rw [← c]; exact Or.inr a
        · exact Or.inr (e4 x g a hx10 c)
    · rcases (hb x y).mp hy with c | ⟨c, d⟩
      · rcases b with b | b
        · subst b; exact (hb h y).mpr (Or.inr ⟨a, Or.inr c⟩)
        · exact (hb h y).mpr (Or.inr ⟨a, Or.inr (k4 x y b hx10 c)⟩)
      · exfalso
        rcases b with b | b
        · subst b
          rcases c with c | c
          · exact h1 c
          · rw [h2] at c; cases c
        · rcases c with c | c
          · subst c; rw [h2] at b; cases b
          · have := k4 x g b hx10 c; rw [h2] at this; cases this
end bu
