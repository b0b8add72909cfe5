/-! THE READER, of a whole library -/
def isBl (x : Int) : Bool := decide (x = 32 ∨ x = 10)
def isLt (x : Int) : Bool := decide (97 ≤ x ∧ x ≤ 122)
def spn (P : Int → Bool) (b : List Int) (p : Nat) : Nat := p + ((b.drop p).takeWhile P).length
def wrd (b : List Int) (p e : Nat) : List Int := (b.drop p).take (e - p)
theorem tw_len (P : Int → Bool) (l : List Int) (k : Nat) (h1 : ∀ i, i < k → i < l.length ∧ P (l.getD i 0) = true) (h2 : k < l.length → P (l.getD k 0) = false) : (l.takeWhile P).length = k := by
  induction l generalizing k with
  | nil =>
    cases k with
    | zero => rfl
    | succ k => have := (h1 0 (by omega)).1; simp at this
  | cons x l ih =>
    cases k with
    | zero =>
      have := h2 (by simp)
      rw [List.takeWhile_cons, if_neg (by rw [show P x = P ((x :: l).getD 0 0) from rfl, this]; decide)]; rfl
    | succ k =>
      have := (h1 0 (by omega)).2
      rw [List.takeWhile_cons, if_pos (by exact this), List.length_cons, ih k (fun i hi => ?_) (fun h => ?_)]
      · have := h1 (i + 1) (by omega)
        exact ⟨by have h := this.1; rw [List.length_cons] at h; omega, by simpa using this.2⟩
      · simpa using h2 (by rw [List.length_cons]; omega)
theorem spn_eq {P : Int → Bool} {b : List Int} {p q : Nat} (hp : p ≤ q) (h1 : ∀ i, p ≤ i → i < q → i < b.length ∧ P (b.getD i 0) = true) (h2 : q < b.length → P (b.getD q 0) = false) : spn P b p = q := by
  unfold spn
  rw [tw_len P (b.drop p) (q - p) (fun i hi => ?_) (fun h => ?_)]
  · omega
  · have := h1 (p + i) (by omega) (by omega)
    refine ⟨by rw [List.length_drop]; omega, ?_⟩
    rw [List.getD_eq_getElem?_getD, List.getElem?_drop, ← List.getD_eq_getElem?_getD]; exact this.2
  · rw [List.length_drop] at h
    have := h2 (by omega)
    rw [List.getD_eq_getElem?_getD, List.getElem?_drop, ← List.getD_eq_getElem?_getD, show p + (q - p) = q by omega]; exact this
theorem spn_ge (P : Int → Bool) (b : List Int) (p : Nat) : p ≤ spn P b p := Nat.le_add_right _ _
theorem spn_le (P : Int → Bool) {b : List Int} {p : Nat} (h : p ≤ b.length) : spn P b p ≤ b.length := by
  unfold spn
  have := (List.takeWhile_sublist P (l := b.drop p)).length_le
  rw [List.length_drop] at this
  omega
theorem wrd_len {b : List Int} {p e : Nat} (h : p ≤ e) (he : e ≤ b.length) : (wrd b p e).length = e - p := by
  unfold wrd; rw [List.length_take, List.length_drop]; omega
theorem wrd_get {b : List Int} {p e i : Nat} (h : i < e - p) : (wrd b p e).getD i 0 = b.getD (p + i) 0 := by
  unfold wrd
  rw [List.getD_eq_getElem?_getD, List.getElem?_take, if_pos h, List.getElem?_drop, ← List.getD_eq_getElem?_getD]
def wSnip : List Int := [115, 110, 105, 112, 112, 101, 116]
def wOrd : List Int := [111, 114, 100, 101, 114]
def wPla : List Int := [112, 108, 97, 99, 101, 115]
def wNum : List Int := [110, 117, 109, 98, 101, 114, 115]
/-- behind the word snippet that begins at p: where the body begins, and the name -/
def hdOf (b : List Int) (p n : Nat) (L : Nat → zSn) : zEr ⊕ (Nat × List Int) :=
  if n = 8 then .inl (5, (p : Int))
  else
    let q := spn isBl b (spn isLt b p)
    let e := spn isLt b q
    if e = q ∨ 8 < e - q then .inl (1, (q : Int))
    else if fndI L (wrd b q e) n ≠ -1 then .inl (3, (q : Int))
    else if bt b (spn isBl b e) = 123 then .inr (spn isBl b e + 1, wrd b q e) else .inl (1, ((spn isBl b e : Nat) : Int))
def orOf (b : List Int) (p : Nat) : zEr ⊕ (Nat × Int) :=
  let q := spn isBl b (spn isLt b p)
  let e := spn isLt b q
  if wrd b q e ≠ wPla ∧ wrd b q e ≠ wNum then .inl (1, (q : Int))
  else if bt b (spn isBl b e) = 59 then .inr (spn isBl b e + 1, if wrd b q e = wPla then 1 else 0) else .inl (1, ((spn isBl b e : Nat) : Int))
/-- place, how many, which, the order -/
abbrev zLs : Type := Nat × Nat × (Nat → zSn) × Int
def updS (L : Nat → zSn) (k : Nat) (S : zSn) : Nat → zSn := fun i => if i = k then S else L i
def lRun (b : List Int) : Nat → zLs → Option (zEr ⊕ zLs)
  | 0, _ => none
  | m + 1, s =>
    if b.length ≤ s.1 then some (.inr s)
    else if wrd b s.1 (spn isLt b s.1) = wSnip then
      match hdOf b s.1 s.2.1 s.2.2.1 with
      | .inl e => some (.inl e)
      | .inr (q, nm) => match bRun b m (q, nwS nm, []) with
        | none => none
        | some (.inl e) => some (.inl e)
        | some (.inr (q', S)) => lRun b m (spn isBl b q', s.2.1 + 1, updS s.2.2.1 s.2.1 S, s.2.2.2)
    else if wrd b s.1 (spn isLt b s.1) = wOrd then
      match orOf b s.1 with
      | .inl e => some (.inl e)
      | .inr (q, o) => lRun b m (spn isBl b q, s.2.1, s.2.2.1, o)
    else some (.inl (1, (s.1 : Int)))
def lRd (b : List Int) (s : zLs) (r : zEr ⊕ zLs) : Prop := ∃ n, lRun b n s = some r
theorem lRun_mono {b : List Int} : ∀ (n m : Nat) (s : zLs) (r : zEr ⊕ zLs), n ≤ m → lRun b n s = some r → lRun b m s = some r := by
  intro n
  induction n with
  | zero => intro m s r _ h; cases h
  | succ n ih =>
    intro m s r hm h
    obtain ⟨m, rfl⟩ : ∃ k, m = k + 1 := ⟨m - 1, by omega⟩
    unfold lRun at h ⊢
    by_cases c1 : b.length ≤ s.1
    · rw [if_pos c1] at h ⊢; exact h
    · rw [if_neg c1] at h ⊢
      by_cases c2 : wrd b s.1 (spn isLt b s.1) = wSnip
      · rw [if_pos c2] at h ⊢
        cases e : hdOf b s.1 s.2.1 s.2.2.1 with
        | inl x => rw [e] at h; exact h
        | inr x =>
          obtain ⟨q, nm⟩ := x
          rw [e] at h
          simp only at h ⊢
          cases e2 : bRun b n (q, nwS nm, []) with
          | none => rw [e2] at h; cases h
          | some y =>
            rw [e2] at h
            rw [bRun_mono n m _ y (by omega) e2]
            cases y with
            | inl z => exact h
            | inr z => exact ih m _ r (by omega) h
      · rw [if_neg c2] at h ⊢
        by_cases c3 : wrd b s.1 (spn isLt b s.1) = wOrd
        · rw [if_pos c3] at h ⊢
          cases e : orOf b s.1 with
          | inl x => rw [e] at h; exact h
          | inr x => rw [e] at h; exact ih m _ r (by omega) h
        · rw [if_neg c3] at h ⊢; exact h
theorem lRd.uniq {b : List Int} {s : zLs} {r r' : zEr ⊕ zLs} (h : lRd b s r) (h' : lRd b s r') : r = r' := by
  obtain ⟨n, h⟩ := h
  obtain ⟨m, h'⟩ := h'
  have h1 := lRun_mono n (max n m) s r (by omega) h
  rw [lRun_mono m (max n m) s r' (by omega) h'] at h1
  exact (Option.some.inj h1).symm
section lRd
variable {b : List Int} {p n : Nat} {L : Nat → zSn} {o : Int} {r : zEr ⊕ zLs}
theorem lRd.fin (h : b.length ≤ p) : lRd b (p, n, L, o) (.inr (p, n, L, o)) := ⟨1, by unfold lRun; rw [if_pos h]⟩
theorem lRd.bad (h : p < b.length) (h1 : wrd b p (spn isLt b p) ≠ wSnip) (h2 : wrd b p (spn isLt b p) ≠ wOrd) : lRd b (p, n, L, o) (.inl (1, (p : Int))) := ⟨1, by unfold lRun; rw [if_neg (by show ¬ b.length ≤ p; omega), if_neg h1, if_neg h2]⟩
theorem lRd.ordE (h : p < b.length) (h2 : wrd b p (spn isLt b p) = wOrd) {e : zEr} (he : orOf b p = .inl e) : lRd b (p, n, L, o) (.inl e) :=
  ⟨1, by unfold lRun; rw [if_neg (by show ¬ b.length ≤ p; omega), if_neg (by rw [h2]; decide), if_pos h2]; simp only; rw [he]⟩
theorem lRd.ord (h : p < b.length) (h2 : wrd b p (spn isLt b p) = wOrd) {q : Nat} {o' : Int} (he : orOf b p = .inr (q, o')) (hr : lRd b (spn isBl b q, n, L, o') r) : lRd b (p, n, L, o) r := by
  obtain ⟨m, hm⟩ := hr
  exact ⟨m + 1, by unfold lRun; rw [if_neg (by show ¬ b.length ≤ p; omega), if_neg (by rw [h2]; decide), if_pos h2]; simp only; rw [he]; exact hm⟩
theorem lRd.headE (h : p < b.length) (h1 : wrd b p (spn isLt b p) = wSnip) {e : zEr} (he : hdOf b p n L = .inl e) : lRd b (p, n, L, o) (.inl e) :=
  ⟨1, by unfold lRun; rw [if_neg (by show ¬ b.length ≤ p; omega), if_pos h1]; simp only; rw [he]⟩
theorem lRd.bodyE (h : p < b.length) (h1 : wrd b p (spn isLt b p) = wSnip) {q : Nat} {nm : List Int} (he : hdOf b p n L = .inr (q, nm)) {e : zEr} (hb : bRd b (q, nwS nm, []) (.inl e)) : lRd b (p, n, L, o) (.inl e) := by
  obtain ⟨m, hm⟩ := hb
  exact ⟨m + 1, by unfold lRun; rw [if_neg (by show ¬ b.length ≤ p; omega), if_pos h1]; simp only; rw [he]; simp only; rw [hm]⟩
theorem lRd.snip (h : p < b.length) (h1 : wrd b p (spn isLt b p) = wSnip) {q q' : Nat} {nm : List Int} {S : zSn} (he : hdOf b p n L = .inr (q, nm)) (hb : bRd b (q, nwS nm, []) (.inr (q', S))) (hr : lRd b (spn isBl b q', n + 1, updS L n S, o) r) : lRd b (p, n, L, o) r := by
  obtain ⟨m1, hm1⟩ := hb
  obtain ⟨m2, hm2⟩ := hr
  refine ⟨max m1 m2 + 1, ?_⟩
  unfold lRun
  rw [if_neg (by show ¬ b.length ≤ p; omega), if_pos h1]
  simp only
  rw [he]
  simp only
  rw [bRun_mono m1 (max m1 m2) _ _ (by omega) hm1]
  exact lRun_mono m2 (max m1 m2) _ _ (by omega) hm2
end lRd
/-- what a load makes of the state -/
def stNew (o : Int) : zSt := (o, 0, fun _ => 0, fun _ => 0, fun _ => 0, fun _ _ => [], [])
def lOut (A : zA) : zEr ⊕ zLs → Int × zA
  | .inl e => (-1, (aN A, aL A, aS A, aU A, aV A, [], e, aC A))
  | .inr s => ((s.2.1 : Int), (s.2.1, s.2.2.1, stNew s.2.2.2, [], fun _ => none, [], (0, -1), aC A))
/-- a load from A ends so -/
def lDo (A : zA) (r : Int × zA) : Prop := ∃ q, lRd (aB A) (spn isBl (aB A) 0, 0, (fun _ => nwS []), 0) q ∧ r = lOut A q
theorem lDo.uniq {A : zA} {r r' : Int × zA} (h : lDo A r) (h' : lDo A r') : r = r' := by
  obtain ⟨q, q1, rfl⟩ := h
  obtain ⟨q', q1', rfl⟩ := h'
  rw [q1.uniq q1']
