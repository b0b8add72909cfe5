/-! WHAT IS READ IS WELL FORMED, 2: occurrences, changes, defaults -/
section bu2
variable {p p' : Nat} {S : zSn} {st : List Nat} {v : Int} {f : Nat}
theorem adO_part (q : Int) : isPart (adO S v f) q ↔ isPart S q := by
  constructor
  · rintro (a | ⟨o, a, b, d⟩)
    · exact Or.inl a
    · have d' : (if o = sN S then (0 : Int) else sD S o) = 1 := d
      have b' : o < sN S + 1 := b
      by_cases e : o = sN S
      · rw [if_pos e] at d'; omega
      · rw [if_neg e] at d'; exact Or.inr ⟨o, a, by omega, d'⟩
  · rintro (a | ⟨o, a, b, d⟩)
    · exact Or.inl a
    · exact Or.inr ⟨o, a, Nat.lt_succ_of_lt b, by show (if o = sN S then (0 : Int) else sD S o) = 1; rw [if_neg (by omega)]; exact d⟩
theorem wBu.occ (h : wBu p S st) (hN : sN S < 60) (hf : f < 10) (ht : tbk S st f = false) : wBu p (adO S (opn st) f) st := by
  have hW : wS S := h.1
  obtain ⟨⟨w1, w2, w3, w4, w5, w6, w7, w8, w9, w10, w11⟩, hc, hl, hT, hB, hp0⟩ := h
  have eF : ∀ o, sF (adO S (opn st) f) o = if o = sN S then (f : Int) else sF S o := fun o => rfl
  have eC : ∀ o, sC (adO S (opn st) f) o = if o = sN S then 0 else sC S o := fun o => rfl
  have eD : ∀ o, sD (adO S (opn st) f) o = if o = sN S then 0 else sD S o := fun o => rfl
  have eP : ∀ o, sP (adO S (opn st) f) o = if o = sN S then opn st else sP S o := fun o => rfl
  have eG : ∀ o, sG (adO S (opn st) f) o = if o = sN S then (if opn st = -1 then 0 else sG S (opn st).toNat + 1) else sG S o := fun o => rfl
  have eE : sE (adO S (opn st) f) = if opn st = -1 then sE S else adE (sE S) f (sF S (opn st).toNat).toNat := rfl
  have eB : ∀ q, sB (adO S (opn st) f) q = if q = opn st then sB S (opn st) ++ [-(sN S : Int) - 1] else sB S q := fun q => rfl
  have eN : sN (adO S (opn st) f) = sN S + 1 := rfl
  have eo : occs [-(sN S : Int) - 1] = [sN S] := by unfold occs; rw [List.filterMap_cons, if_pos (by omega)]; show [(-(-(sN S : Int) - 1) - 1).toNat] = _; rw [show (-(-(sN S : Int) - 1) - 1).toNat = sN S by omega]
  have el : lits [-(sN S : Int) - 1] = 0 := by unfold lits; rw [List.filter_cons, if_neg (by rw [decide_eq_true_eq]; omega)]; rfl
  -- the open part
  have hop : (st = [] ∧ opn st = -1) ∨ ∃ q r, st = q :: r ∧ opn st = (q : Nat) ∧ q < sN S ∧ sD S q = 1 ∧ sG S q = r.length ∧ r.length ≤ 3 := by
    cases st with
    | nil => exact Or.inl ⟨rfl, rfl⟩
    | cons q r => exact Or.inr ⟨q, r, rfl, rfl, hc.1, hc.2.1, chain_G hW r q hc, by rw [List.length_cons] at hl; omega⟩
  -- what depends on what
  have hE : (∀ h x, mbit (sE S h) x = true → mbit (sE (adO S (opn st) f) h) x = true) ∧ (∀ q r, st = q :: r → mbit (sE (adO S (opn st) f) (sF S q).toNat) f = true) ∧ ∀ h, h < 10 → zr (sE (adO S (opn st) f) h) ∧ mbit (sE (adO S (opn st) f) h) h = false ∧ (∀ i, 10 ≤ i → i < 32 → mbit (sE (adO S (opn st) f) h) i = false) ∧ ∀ x y, mbit (sE (adO S (opn st) f) h) x = true → x < 10 → mbit (sE (adO S (opn st) f) x) y = true → mbit (sE (adO S (opn st) f) h) y = true := by
    rw [eE]
    rcases hop with ⟨e1, e2⟩ | ⟨q, r, e1, e2, e3, e4, e5, e6⟩
    · rw [if_pos e2]
      exact ⟨fun h x hx => hx, fun q r hq => (by rw [e1] at hq; cases hq), w6⟩
    · have hq := w4 q e3
      rw [if_neg (by omega), show (opn st).toNat = q by omega]
      obtain ⟨t1, t2⟩ := tbk_no (q := q) (r := r) (by rw [← e1]; exact ht)
      obtain ⟨hb, hw⟩ := adE_w w6 hf (show (sF S q).toNat < 10 by omega) t1 t2
      refine ⟨fun h x hx => (hb h x).mpr (Or.inl hx), fun q' r' hq' => ?_, hw⟩
      rw [e1] at hq'
      obtain ⟨rfl, rfl⟩ := List.cons.inj hq'
      exact (hb _ _).mpr (Or.inr ⟨Or.inl rfl, Or.inl rfl⟩)
  have hpar : ∀ o q : Nat, o < sN S → sP S o = q → q < o := fun o q ho hq => by
    rcases w5 o ho with ⟨a, -⟩ | ⟨q', a, b, -⟩ <;> omega
  have hlit : ∀ q, isPart (adO S (opn st) f) q → (lits (sB (adO S (opn st) f) q) : Int) ≤ sT S := fun q hq => by
    have hq' := (adO_part q).mp hq
    rw [eB]
    by_cases e : q = opn st
    · rw [if_pos e, lits_app, el, ← e]; have := hT q hq'; omega
    · rw [if_neg e]; exact hT q hq'
  refine ⟨⟨by rw [eN]; omega, w2, w3, fun o ho => ?_, fun o ho => ?_, hE.2.2, fun o q ho hq => ?_, fun q hq => ?_, w9, w10, w11⟩, chain_congr (S := S) (S' := adO S (opn st) f) (Nat.le_succ _) (fun o ho hd => by rw [eD, if_neg (by omega)]; exact hd) (fun o ho => by rw [eP, if_neg (by omega)]) st hc, hl, hlit, fun q hq => ?_, hp0⟩
  · rw [eN] at ho
    rw [eF, eC, eD, eG]
    by_cases e : o = sN S
    · rw [if_pos e, if_pos e, if_pos e, if_pos e]
      rcases hop with ⟨e1, e2⟩ | ⟨q, r, e1, e2, e3, e4, e5, e6⟩
      · rw [if_pos e2]; omega
      · rw [if_neg (by omega), show (opn st).toNat = q by omega, e5]; omega
    · rw [if_neg e, if_neg e, if_neg e, if_neg e]; exact w4 o (by omega)
  · rw [eN] at ho
    rw [eP, eG]
    by_cases e : o = sN S
    · rw [if_pos e, if_pos e]
      rcases hop with ⟨e1, e2⟩ | ⟨q, r, e1, e2, e3, e4, e5, e6⟩
      · left; rw [if_pos e2]; exact ⟨e2, rfl⟩
      · right
        refine ⟨q, e2, by omega, by rw [eD, if_neg (by omega)]; exact e4, ?_⟩
        rw [if_neg (by omega), show (opn st).toNat = q by omega, eG, if_neg (by omega)]
    · rw [if_neg e, if_neg e]
      rcases w5 o (by omega) with a | ⟨q, a, b, d, g⟩
      · exact Or.inl a
      · exact Or.inr ⟨q, a, b, by rw [eD, if_neg (by omega)]; exact d, by rw [eG, if_neg (by omega)]; exact g⟩
  · rw [eN] at ho
    rw [eP] at hq
    by_cases e : o = sN S
    · rw [if_pos e] at hq
      rcases hop with ⟨e1, e2⟩ | ⟨q', r, e1, e2, e3, e4, e5, e6⟩
      · omega
      · have : q = q' := by omega
        subst this
        rw [eF, if_neg (by omega), eF, if_pos e]
        exact hE.2.1 q r e1
    · rw [if_neg e] at hq
      have := hpar o q (by omega) hq
      rw [eF, if_neg (by omega), eF, if_neg e]
      exact hE.1 _ _ (w7 o q (by omega) hq)
  · have hq' := (adO_part q).mp hq
    obtain ⟨a1, a2, a3⟩ := w8 q hq'
    refine ⟨?_, ?_, by have := hlit q hq; omega⟩
    · rw [eN, List.range_succ, List.filter_append, eB]
      have e1 : (List.range (sN S)).filter (fun o => decide (sP (adO S (opn st) f) o = q)) = (List.range (sN S)).filter (fun o => decide (sP S o = q)) := List.filter_congr (fun o ho => by
        have := List.mem_range.mp ho
        rw [eP, if_neg (by omega)])
      rw [e1, List.filter_cons, eP, if_pos rfl]
      by_cases e : q = opn st
      · rw [if_pos e, occs_app, eo, if_pos (decide_eq_true e.symm), ← e, a1]; rfl
      · rw [if_neg e, if_neg (by rw [decide_eq_true_eq]; exact fun h => e h.symm), a1]; exact (List.append_nil _).symm
    · rw [eB]
      by_cases e : q = opn st
      · rw [if_pos e, ← e]
        intro x hx
        rcases List.mem_append.mp hx with y | y
        · exact a2 x y
        · rw [List.mem_singleton.mp y]; omega
      · rw [if_neg e]; exact a2
  · have hne : q ≠ opn st := fun e => hq ((adO_part q).mpr (by rw [e]; exact chain_part hc))
    rw [eB, if_neg hne]; exact hB q (fun h => hq ((adO_part q).mpr h))
theorem wBu.chg (h : wBu p S st) {o : Nat} (hd : sD S o = 0) {y : Int} (h0 : 0 ≤ y) (h5 : y ≤ 5) : wBu p (stC S o y) st := by
  obtain ⟨⟨w1, w2, w3, w4, w5, w6, w7, w8, w9, w10, w11⟩, hc, hl, hT, hB, hp0⟩ := h
  refine ⟨⟨w1, w2, w3, fun x hx => ?_, w5, w6, w7, w8, w9, w10, w11⟩, chain_congr (S := S) (S' := stC S o y) (Nat.le_refl _) (fun _ _ h => h) (fun _ _ => rfl) st hc, hl, hT, hB, hp0⟩
  have eC : sC (stC S o y) x = if x = o then y else sC S x := rfl
  have hx' := w4 x hx
  have e1 : sF (stC S o y) x = sF S x := rfl
  have e2 : sD (stC S o y) x = sD S x := rfl
  have e3 : sG (stC S o y) x = sG S x := rfl
  rw [eC, e1, e2, e3]
  by_cases e : x = o
  · rw [if_pos e]
    rw [e] at hx' ⊢
    exact ⟨hx'.1, hx'.2.1, h0, h5, Or.inl hd, fun _ => hd, hx'.2.2.2.2.2.2⟩
  · rw [if_neg e]; exact hx'
theorem stD_part {o : Nat} (ho : o < sN S) (q : Int) : isPart (stD S o) q ↔ isPart S q ∨ q = (o : Nat) := by
  constructor
  · rintro (a | ⟨x, a, b, d⟩)
    · exact Or.inl (Or.inl a)
    · have d' : (if x = o then (1 : Int) else sD S x) = 1 := d
      by_cases e : x = o
      · exact Or.inr (by rw [a, e])
      · rw [if_neg e] at d'; exact Or.inl (Or.inr ⟨x, a, b, d'⟩)
  · rintro ((a | ⟨x, a, b, d⟩) | a)
    · exact Or.inl a
    · refine Or.inr ⟨x, a, b, ?_⟩
      show (if x = o then (1 : Int) else sD S x) = 1
      by_cases e : x = o
      · rw [if_pos e]
      · rw [if_neg e]; exact d
    · exact Or.inr ⟨o, a, ho, by show (if o = o then (1 : Int) else _) = 1; rw [if_pos rfl]⟩
/-- the latest occurrence opens its default -/
theorem wBu.dft (h : wBu p S st) {o : Nat} (ho : o + 1 = sN S) (hd : sD S o = 0) (hcc : sC S o = 0) (hP : sP S o = opn st) (hl3 : st.length ≠ 4) (hb : sB S (o : Nat) = []) : wBu p (stD S o) (o :: st) := by
  have hW : wS S := h.1
  obtain ⟨⟨w1, w2, w3, w4, w5, w6, w7, w8, w9, w10, w11⟩, hc, hl, hT, hB, hp0⟩ := h
  have eD : ∀ x, sD (stD S o) x = if x = o then 1 else sD S x := fun x => rfl
  have hDm : ∀ x, sD S x = 1 → sD (stD S o) x = 1 := fun x hx => by
    rw [eD]
    by_cases e : x = o
    · rw [if_pos e]
    · rw [if_neg e]; exact hx
  have hG : sG S o = st.length := by
    rcases w5 o (by omega) with ⟨a, b⟩ | ⟨q, a, b, d, g⟩
    · cases st with
      | nil => rw [b]; rfl
      | cons x r => have e : opn (x :: r) = (x : Nat) := rfl; omega
    · cases st with
      | nil => have e : opn [] = -1 := rfl; omega
      | cons x r =>
        have e : opn (x :: r) = (x : Nat) := rfl
        have : q = x := by omega
        subst this
        rw [g, chain_G hW r q hc, List.length_cons]; omega
  have hno : ∀ x, x < sN S → sP S x ≠ (o : Nat) := fun x hx e => by
    rcases w5 x hx with ⟨a, -⟩ | ⟨q, a, b, -⟩ <;> omega
  have ho60 := w1
  refine ⟨⟨w1, w2, w3, fun x hx => ?_, fun x hx => ?_, w6, w7, fun q hq => ?_, w9, w10, w11⟩, ⟨by show o < sN S; omega, by rw [eD, if_pos rfl], hP, chain_congr (S := S) (S' := stD S o) (Nat.le_refl _) (fun x _ hx => hDm x hx) (fun _ _ => rfl) st hc⟩, by rw [List.length_cons]; omega, fun q hq => ?_, fun q hq => hB q (fun h => hq ((stD_part (by omega) q).mpr (Or.inl h))), hp0⟩
  · have hx' := w4 x hx
    have e1 : sF (stD S o) x = sF S x := rfl
    have e2 : sC (stD S o) x = sC S x := rfl
    have e3 : sG (stD S o) x = sG S x := rfl
    rw [eD, e1, e2, e3]
    by_cases e : x = o
    · rw [if_pos e, e]
      rw [e] at hx'
      exact ⟨hx'.1, hx'.2.1, hx'.2.2.1, hx'.2.2.2.1, Or.inr rfl, fun q => absurd hcc q, hx'.2.2.2.2.2.2.1, hx'.2.2.2.2.2.2.2.1, fun _ => by rw [hG]; omega⟩
    · rw [if_neg e]; exact hx'
  · rcases w5 x hx with a | ⟨q, a, b, d, g⟩
    · exact Or.inl a
    · exact Or.inr ⟨q, a, b, hDm q d, g⟩
  · have e1 : ∀ q, sB (stD S o) q = sB S q := fun _ => rfl
    rw [e1]
    rcases (stD_part (by omega) q).mp hq with a | a
    · exact w8 q a
    · rw [a, hb]
      refine ⟨?_, fun x hx => (by cases hx), Nat.zero_le _⟩
      symm
      show (List.range (sN S)).filter (fun x => decide (sP S x = (o : Nat))) = []
      exact List.filter_eq_nil_iff.mpr (fun x hx => by rw [decide_eq_true_eq]; exact hno x (List.mem_range.mp hx))
  · have e1 : ∀ q, sB (stD S o) q = sB S q := fun _ => rfl
    rw [e1]
    rcases (stD_part (by omega) q).mp hq with a | a
    · exact hT q a
    · rw [a, hb]; exact w9
end bu2
