/-! WHAT A QUESTION ANSWERS: the number of its exception, or a number -/
def setI (P : Nat → Bool) : Nat → Int
  | 0 => 0
  | k + 1 => if P k = true then zor (setI P k) (zshl 1 (k : Nat)) else setI P k
theorem setI_bit (P : Nat → Bool) : ∀ n, n ≤ 32 → zr (setI P n) ∧ ∀ i, i < 32 → mbit (setI P n) i = (decide (i < n) && P i) := by
  intro n
  induction n with
  | zero => exact fun _ => ⟨(show zr 0 from ⟨by decide, by decide⟩), fun i hi => by rw [show setI P 0 = 0 from rfl, mbit_0]; simp⟩
  | succ n ih =>
    intro hn
    obtain ⟨i1, i2⟩ := ih (by omega)
    have e : setI P (n + 1) = if P n = true then zor (setI P n) (zshl 1 (n : Nat)) else setI P n := rfl
    rw [e]
    by_cases h : P n = true
    · rw [if_pos h]
      refine ⟨zr_of _, fun i hi => ?_⟩
      rw [mbit_or, i2 i hi, mbit_shl (by omega) (by omega)]
      by_cases e2 : i = n
      · rw [decide_eq_true (p := (i : Int) = (n : Nat)) (by omega), Bool.or_true, decide_eq_true (p := i < n + 1) (by omega), e2, h]; rfl
      · rw [decide_eq_false (p := (i : Int) = (n : Nat)) (by omega), Bool.or_false]
        congr 1
        exact decide_eq_decide.mpr (by omega)
    · rw [if_neg h]
      refine ⟨i1, fun i hi => ?_⟩
      rw [i2 i hi]
      by_cases e2 : i = n
      · rw [Bool.not_eq_true] at h
        rw [e2, h, Bool.and_false, Bool.and_false]
      · congr 1
        exact decide_eq_decide.mpr (by omega)
theorem setI_eq {P : Nat → Bool} {x : Int} (h : zr x) (hb : ∀ i, i < 32 → mbit x i = P i) (h10 : ∀ i, 10 ≤ i → P i = false) : x = setI P 10 := by
  obtain ⟨h1, h2⟩ := setI_bit P 10 (by decide)
  refine mext h h1 (fun i hi => ?_)
  rw [hb i hi, h2 i hi]
  by_cases e : i < 10
  · rw [decide_eq_true e, Bool.true_and]
  · rw [decide_eq_false e, Bool.false_and, h10 i (by omega)]
theorem vLv_10 {S : zSn} (hW : wS S) (ty : Nat → Bool) : ∀ i, 10 ≤ i → vLv S ty i = false := fun i hi => by
  cases h : vLv S ty i with
  | false => rfl
  | true => have := vLv_lt hW h; omega
def dpF (S : zSn) : Nat → Int
  | 0 => 0
  | k + 1 => max (dpF S k) (sG S k)
def fsI (S : zSn) : Int := setI (fun i => decide (∃ o, o < sN S ∧ sF S o = (i : Nat))) 10
def nDef (S : zSn) : Nat := cnt (fun o => decide (sD S o = 1)) (sN S)
def xIO : String := "java/lang/IndexOutOfBoundsException"
def xIA : String := "java/lang/IllegalArgumentException"
def xIS : String := "java/lang/IllegalStateException"
def xNS : String := "java/util/NoSuchElementException"
def cRes {γ : Type} (names : List String) : Nat ⊕ γ → String ⊕ γ
  | .inl k => .inl (names.getD (k - 1) "")
  | .inr v => .inr v
abbrev qD (A : zA) : Nat := tD (aS A)
def qS (A : zA) : zSn := hS (aL A) (aS A) (qD A - 1)
def qT (A : zA) : Nat → Bool := hT (aS A) (qD A - 1)
def qX (A : zA) : Nat → List Int := tX (aS A) (qD A - 1)
def qN (A : zA) : Nat → Nat := fun f => (qX A f).length
def qO (A : zA) : List Nat := vOrd (qS A) (qT A) (tO (aS A))
def spSize (A : zA) (w : Int) : Nat ⊕ Int := if w = 0 then .inr (aN A) else if w = 1 then .inr (qD A) else if w = 2 then .inr (tDoc (aS A)).length else if w = 3 then .inr (tO (aS A)) else if w = 4 then .inr (aB A).length else if w = 5 then .inr (aU A).length else .inl 1
def spSnippet (A : zA) (k w : Int) : Nat ⊕ Int := if ¬ (0 ≤ k ∧ k < aN A) then .inl 1 else if w = 0 then .inr (sNm (aL A k.toNat)).length else if w = 1 then .inr (sN (aL A k.toNat)) else if w = 2 then .inr (fsI (aL A k.toNat)) else if w = 3 then .inr (dpF (aL A k.toNat) (sN (aL A k.toNat))) else if w = 4 then .inr (nDef (aL A k.toNat)) else if w = 5 then .inr (sT (aL A k.toNat)) else .inl 2
def spLetter (A : zA) (k i : Int) : Nat ⊕ Int := if ¬ (0 ≤ k ∧ k < aN A) then .inl 1 else if 0 ≤ i ∧ i < (sNm (aL A k.toNat)).length then .inr ((sNm (aL A k.toNat)).getD i.toNat 0) else .inr (-1)
def spDepends (A : zA) (k f : Int) : Nat ⊕ Int := if ¬ (0 ≤ k ∧ k < aN A) then .inl 1 else if ¬ (0 ≤ f ∧ f < 10) then .inl 1 else .inr (sE (aL A k.toNat) f.toNat)
def spDocument (A : zA) (i : Int) : Nat ⊕ Int := if ¬ (0 ≤ i ∧ i < (tDoc (aS A)).length) then .inl 1 else .inr ((tDoc (aS A)).getD i.toNat 0)
def spSession (A : zA) (l w : Int) : Nat ⊕ Int := if ¬ (0 ≤ l ∧ l < qD A) then .inl 1 else if w = 0 then .inr (tS (aS A) l.toNat) else if w = 1 then .inr (tC (aS A) l.toNat) else if w = 2 then .inr (tY (aS A) l.toNat) else if w = 3 then .inr (hTL (aL A) (aS A) l.toNat) else if w = 4 then .inr (setI (vLv (hS (aL A) (aS A) l.toNat) (hT (aS A) l.toNat)) 10) else .inl 2
def spAccount (A : zA) (w : Int) : Nat ⊕ Int := if ¬ (0 ≤ w ∧ w ≤ 9) then .inl 1 else .inr (aC A w.toNat)
def spField (A : zA) (f w : Int) : Nat ⊕ Int := if ¬ (0 ≤ f ∧ f < 10) then .inl 1 else if ¬ (0 ≤ w ∧ w ≤ 6) then .inl 2 else if qD A = 0 then .inl 3 else .inr (if w = 0 then zb (vLv (qS A) (qT A) f.toNat) else if w = 1 then zb (qT A f.toNat) else if w = 2 then (vCn (qS A) (qT A) f.toNat : Nat) else if w = 3 then vSd (qS A) (qT A) f.toNat else if w = 4 then plc (qO A) f.toNat else if w = 5 then (vL (qS A) (qT A) (qN A) f.toNat : Nat) else (cnt (fun o => decide (sF (qS A) o = (f.toNat : Nat))) (sN (qS A)) : Nat))
def spValue (A : zA) (f i : Int) : Nat ⊕ Int := if ¬ (0 ≤ f ∧ f < 10) then .inl 1 else if qD A = 0 then .inl 2 else .inr (if 0 ≤ i ∧ i < (vV (qS A) (qT A) (qX A) f.toNat).length then (vV (qS A) (qT A) (qX A) f.toNat).getD i.toNat 0 else -1)
def spOcc (A : zA) (o w : Int) : Nat ⊕ Int := if qD A = 0 then .inl 1 else if ¬ (0 ≤ o ∧ o < sN (qS A)) then .inl 2 else if ¬ (0 ≤ w ∧ w ≤ 7) then .inl 3 else .inr (if w = 0 then sF (qS A) o.toNat else if w = 1 then sC (qS A) o.toNat else if w = 2 then sD (qS A) o.toNat else if w = 3 then sP (qS A) o.toNat else if w = 4 then zb (vSh (qS A) (qT A) o.toNat) else if w = 5 then zb (decide (vSd (qS A) (qT A) (sF (qS A) o.toNat).toNat = o)) else if w = 6 then (chgN (sC (qS A) o.toNat) (vL (qS A) (qT A) (qN A) (sF (qS A) o.toNat).toNat) : Nat) else vStart (qS A) (qT A) (vL (qS A) (qT A) (qN A)) o.toNat)
def spText (A : zA) (i : Int) : Nat ⊕ Int := if qD A = 0 then .inl 1 else .inr (if 0 ≤ i ∧ i < (vTx (qS A) (qT A) (qX A)).length then (vTx (qS A) (qT A) (qX A)).getD i.toNat 0 else -1)
def spOrderAt (A : zA) (i : Int) : Nat ⊕ Int := if qD A = 0 then .inl 1 else .inr (if 0 ≤ i ∧ i < (qO A).length then ((qO A).getD i.toNat 0 : Nat) else -1)
def spWhy (A : zA) (f : Int) : Nat ⊕ Int := if ¬ (0 ≤ f ∧ f < 10) then .inl 1 else if qD A = 0 then .inl 2 else .inr (vWhy (qS A) (qT A) f.toNat)
def spYielded (A : zA) : Nat ⊕ Int := if qD A = 0 then .inl 1 else .inr (vYl (qS A) (qT A) : Nat)
def spMirrored (A : zA) : Nat ⊕ Int := if qD A = 0 then .inl 1 else .inr (vMi (qS A) (qT A) : Nat)
def spLongest (A : zA) : Nat ⊕ Int := if qD A = 0 then .inl 1 else .inr (vLg (qS A) (qT A) (qN A) 10)
def nLv (A : zA) : Nat := cnt (fun i => vLv (qS A) (qT A) i) 10
def nUt (A : zA) : Nat := cnt (fun i => vLv (qS A) (qT A) i && !qT A i) 10
def spUntouched (A : zA) : Nat ⊕ UInt32 := if qD A = 0 then .inl 1 else .inr (FP.fdiv (FP.i2f (zi (nUt A : Nat))) (FP.i2f (zi (nLv A : Nat))))
def spMean (A : zA) : Nat ⊕ UInt64 := if qD A = 0 then .inl 1 else .inr (FP.ddiv (FP.i2d (zi (vSum (qS A) (qT A) (qN A) : Nat))) (FP.i2d (zi (nLv A : Nat))))
def onT (ty : Nat → Bool) (f : Nat) : Nat → Bool := fun g => if g = f then true else ty g
def offT (ty : Nat → Bool) (f : Nat) : Nat → Bool := fun g => if g = f then false else ty g
def updN (ln : Nat → Nat) (f n : Nat) : Nat → Nat := fun g => if g = f then n else ln g
def qC (A : zA) : Nat := (tC (aS A) (qD A - 1)).toNat
def spLengthIf (A : zA) (n : Int) : Nat ⊕ Int := if ¬ (1 ≤ n ∧ n ≤ 20) then .inl 1 else if qD A = 0 then .inl 2 else .inr (if qN A (qC A) + n.toNat > 40 then -1 else if vTL (qS A) (onT (qT A) (qC A)) (updN (qN A) (qC A) (qN A (qC A) + n.toNat)) > 400 then -1 else (vTL (qS A) (onT (qT A) (qC A)) (updN (qN A) (qC A) (qN A (qC A) + n.toNat)) : Nat))
def spWouldHide (A : zA) (f : Int) : Nat ⊕ Int := if ¬ (0 ≤ f ∧ f < 10) then .inl 1 else if qD A = 0 then .inl 2 else .inr (if qT A f.toNat = true then 0 else setI (fun i => vLv (qS A) (qT A) i && !vLv (qS A) (onT (qT A) f.toNat) i) 10)
def spLengthOf (A : zA) (k : Int) : Nat ⊕ Int := if ¬ (0 ≤ k ∧ k < aN A) then .inl 1 else .inr (min (vTL (aL A k.toNat) (fun _ => false) (fun _ => 0)) 100000 : Nat)
