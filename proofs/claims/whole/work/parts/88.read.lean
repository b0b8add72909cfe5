/-! THE READER: what a step of it does -/
def bt (b : List Int) (p : Nat) : Int := if p < b.length then b.getD p 0 else -1
def opn : List Nat → Int
  | [] => -1
  | q :: _ => (q : Nat)
def adL (S : zSn) (p v : Int) : zSn := (sNm S, sN S, sF S, sC S, sD S, sP S, sG S, sE S, fun q => if q = p then sB S p ++ [v] else sB S q, sT S + 1)
def adE (E : Nat → Int) (f g : Nat) : Nat → Int := fun h => if h = g ∨ mbit (E h) g = true then zor (E h) (zor (E f) (zshl 1 (f : Nat))) else E h
def adO (S : zSn) (p : Int) (f : Nat) : zSn := (sNm S, sN S + 1, updI (sF S) (sN S) (f : Nat), updI (sC S) (sN S) 0, updI (sD S) (sN S) 0, updI (sP S) (sN S) p, updI (sG S) (sN S) (if p = -1 then 0 else sG S p.toNat + 1), (if p = -1 then sE S else adE (sE S) f (sF S p.toNat).toNat), fun q => if q = p then sB S p ++ [-(sN S : Int) - 1] else sB S q, sT S)
def stC (S : zSn) (o : Nat) (y : Int) : zSn := (sNm S, sN S, sF S, updI (sC S) o y, sD S, sP S, sG S, sE S, sB S, sT S)
def stD (S : zSn) (o : Nat) : zSn := (sNm S, sN S, sF S, sC S, updI (sD S) o 1, sP S, sG S, sE S, sB S, sT S)
def nwS (nm : List Int) : zSn := (nm, 0, fun _ => 0, fun _ => 0, fun _ => 0, fun _ => 0, fun _ => 0, fun _ => 0, fun _ => [], 0)
/-- the fields of what is open -/
def chain (S : zSn) : List Nat → Prop
  | [] => True
  | q :: r => q < sN S ∧ sD S q = 1 ∧ sP S q = opn r ∧ chain S r
def tbk (S : zSn) (st : List Nat) (f : Nat) : Bool := match st with
  | [] => false
  | q :: _ => decide (f = (sF S q).toNat) || mbit (sE S f) (sF S q).toNat
def chgOf (x : Int) : Int := if x = 117 then 1 else if x = 108 then 2 else if x = 114 then 3 else if x = 102 then 4 else if x = 110 then 5 else 0
abbrev zEr : Type := Int × Int
abbrev zBs : Type := Nat × zSn × List Nat
/-- behind the digit: p the dollar, q the place behind the digit, S and o with the occurrence already -/
def bBeh (b : List Int) (p q : Nat) (S : zSn) (o : Nat) (st : List Nat) : zEr ⊕ zBs :=
  if bt b q = 125 then .inr (q + 1, S, st)
  else if bt b q = 47 then (if chgOf (bt b (q + 1)) = 0 then .inl (1, ((q + 1 : Nat) : Int)) else if bt b (q + 2) = 125 then .inr (q + 3, stC S o (chgOf (bt b (q + 1))), st) else .inl (1, ((q + 2 : Nat) : Int)))
  else if bt b q = 58 then (if st.length = 4 then .inl (2, (p : Int)) else .inr (q + 1, stD S o, o :: st))
  else .inl (1, (q : Int))
/-- the dollar at p, the digit at q, w: a brace before it -/
def bDig (b : List Int) (p q : Nat) (w : Bool) (S : zSn) (st : List Nat) : zEr ⊕ zBs :=
  if ¬ (48 ≤ bt b q ∧ bt b q ≤ 57) then .inl (1, (q : Int))
  else if tbk S st (bt b q - 48).toNat = true then .inl (4, (p : Int))
  else if sN S = 60 then .inl (5, (p : Int))
  else if w = false then .inr (q + 1, adO S (opn st) (bt b q - 48).toNat, st)
  else bBeh b p (q + 1) (adO S (opn st) (bt b q - 48).toNat) (sN S) st
def bDol (b : List Int) (p : Nat) (S : zSn) (st : List Nat) : zEr ⊕ zBs :=
  if bt b (p + 1) = 36 ∨ bt b (p + 1) = 125 then .inr (p + 2, adL S (opn st) (bt b (p + 1)), st)
  else if bt b (p + 1) = 123 then bDig b p (p + 2) true S st
  else bDig b p (p + 1) false S st
def bGo : zEr ⊕ zBs → zEr ⊕ ((Nat × zSn) ⊕ zBs)
  | .inl e => .inl e
  | .inr s => .inr (.inr s)
/-- a step of a body -/
def bStp (b : List Int) (p : Nat) (S : zSn) (st : List Nat) : zEr ⊕ ((Nat × zSn) ⊕ zBs) :=
  if bt b p = 125 then (match st with
    | [] => .inr (.inl (p + 1, S))
    | _ :: r => .inr (.inr (p + 1, S, r)))
  else if bt b p = 36 then bGo (bDol b p S st)
  else if bt b p = 10 ∨ (32 ≤ bt b p ∧ bt b p ≤ 126) then .inr (.inr (p + 1, adL S (opn st) (bt b p), st))
  else .inl (1, (p : Int))
def bRun (b : List Int) : Nat → zBs → Option (zEr ⊕ (Nat × zSn))
  | 0, _ => none
  | n + 1, s => match bStp b s.1 s.2.1 s.2.2 with
    | .inl e => some (.inl e)
    | .inr (.inl r) => some (.inr r)
    | .inr (.inr s') => bRun b n s'
/-- a body read from here ends so -/
def bRd (b : List Int) (s : zBs) (r : zEr ⊕ (Nat × zSn)) : Prop := ∃ n, bRun b n s = some r
theorem bRun_mono {b : List Int} : ∀ (n m : Nat) (s : zBs) (r : zEr ⊕ (Nat × zSn)), n ≤ m → bRun b n s = some r → bRun b m s = some r := by
  intro n
  induction n with
  | zero => intro m s r _ h; cases h
  | succ n ih =>
    intro m s r hm h
    obtain ⟨m, rfl⟩ : ∃ k, m = k + 1 := ⟨m - 1, by omega⟩
    unfold bRun at h ⊢
    cases e : bStp b s.1 s.2.1 s.2.2 with
    | inl x => rw [e] at h; exact h
    | inr x =>
      rw [e] at h
      cases x with
      | inl y => exact h
      | inr y => exact ih m y r (by omega) h
theorem bRd.uniq {b : List Int} {s : zBs} {r r' : zEr ⊕ (Nat × zSn)} (h : bRd b s r) (h' : bRd b s r') : r = r' := by
  obtain ⟨n, h⟩ := h
  obtain ⟨m, h'⟩ := h'
  have h1 := bRun_mono n (max n m) s r (by omega) h
  rw [bRun_mono m (max n m) s r' (by omega) h'] at h1
  exact (Option.some.inj h1).symm
theorem bRd.err {b : List Int} {p : Nat} {S : zSn} {st : List Nat} {e : zEr} (h : bStp b p S st = .inl e) : bRd b (p, S, st) (.inl e) := ⟨1, by unfold bRun; rw [h]⟩
theorem bRd.fin {b : List Int} {p : Nat} {S : zSn} {st : List Nat} {e : Nat × zSn} (h : bStp b p S st = .inr (.inl e)) : bRd b (p, S, st) (.inr e) := ⟨1, by unfold bRun; rw [h]⟩
theorem bRd.step {b : List Int} {p : Nat} {S : zSn} {st : List Nat} {s : zBs} {r : zEr ⊕ (Nat × zSn)} (h : bStp b p S st = .inr (.inr s)) (h2 : bRd b s r) : bRd b (p, S, st) r := by
  obtain ⟨n, hn⟩ := h2
  exact ⟨n + 1, by unfold bRun; rw [h]; exact hn⟩
