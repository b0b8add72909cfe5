/-! THE PICTURE: a snippet, as both sides have it. Name, occurrences, field, change, default (0, 1), parent, nesting, what a field depends on (a set), the body of a part (bytes; -o - 1 for the occurrence o), literals in all -/
abbrev zSn : Type := List Int × Nat × (Nat → Int) × (Nat → Int) × (Nat → Int) × (Nat → Int) × (Nat → Int) × (Nat → Int) × (Int → List Int) × Int
def sNm (S : zSn) : List Int := S.1
def sN (S : zSn) : Nat := S.2.1
def sF (S : zSn) : Nat → Int := S.2.2.1
def sC (S : zSn) : Nat → Int := S.2.2.2.1
def sD (S : zSn) : Nat → Int := S.2.2.2.2.1
def sP (S : zSn) : Nat → Int := S.2.2.2.2.2.1
def sG (S : zSn) : Nat → Int := S.2.2.2.2.2.2.1
def sE (S : zSn) : Nat → Int := S.2.2.2.2.2.2.2.1
def sB (S : zSn) : Int → List Int := S.2.2.2.2.2.2.2.2.1
def sT (S : zSn) : Int := S.2.2.2.2.2.2.2.2.2
/-- a part: the body, or a default -/
def isPart (S : zSn) (p : Int) : Prop := p = -1 ∨ ∃ o : Nat, p = o ∧ o < sN S ∧ sD S o = 1
def lits (l : List Int) : Nat := (l.filter (fun x => decide (0 ≤ x))).length
def occs (l : List Int) : List Nat := l.filterMap (fun x => if x < 0 then some (-x - 1).toNat else none)
/-- what holds of a snippet that was read -/
def wS (S : zSn) : Prop :=
  sN S ≤ 60 ∧ (sNm S).length ≤ 8 ∧ 1 ≤ (sNm S).length ∧
  (∀ o, o < sN S → 0 ≤ sF S o ∧ sF S o < 10 ∧ 0 ≤ sC S o ∧ sC S o ≤ 5 ∧ (sD S o = 0 ∨ sD S o = 1) ∧ (sC S o ≠ 0 → sD S o = 0) ∧ 0 ≤ sG S o ∧ sG S o ≤ 4 ∧ (sD S o = 1 → sG S o ≤ 3)) ∧
  (∀ o, o < sN S → (sP S o = -1 ∧ sG S o = 0) ∨ ∃ q : Nat, sP S o = q ∧ q < o ∧ sD S q = 1 ∧ sG S o = sG S q + 1) ∧
  (∀ f, f < 10 → zr (sE S f) ∧ mbit (sE S f) f = false ∧ (∀ i, 10 ≤ i → i < 32 → mbit (sE S f) i = false) ∧ ∀ g h, mbit (sE S f) g = true → g < 10 → mbit (sE S g) h = true → mbit (sE S f) h = true) ∧
  (∀ o q : Nat, o < sN S → sP S o = q → mbit (sE S (sF S q).toNat) (sF S o).toNat = true) ∧
  (∀ p, isPart S p → occs (sB S p) = (List.range (sN S)).filter (fun o => decide (sP S o = p)) ∧ (∀ x ∈ sB S p, -60 ≤ x ∧ x ≤ 255) ∧ lits (sB S p) ≤ 700) ∧
  0 ≤ sT S ∧ sT S ≤ 700 ∧ (∀ i, i < (sNm S).length → 97 ≤ (sNm S).getD i 0 ∧ (sNm S).getD i 0 ≤ 122)
/-- the class's rows: from place a to place b, what belongs to part p, in order -/
def pSel (μ : zM) (r : Nat) (p : Int) : Nat → Nat → List Int
  | _, 0 => []
  | a, n + 1 => if zI μ (r + 1) a = p then zI μ r a :: pSel μ r p (a + 1) n else pSel μ r p (a + 1) n
def cFirst (μ : zM) (t : Nat) (p : Int) : Int := if p = -1 then zI μ t 15 else zI μ (t + 9) p.toNat + 1
def cEnd (μ : zM) (t : Nat) (p : Int) : Int := if p = -1 then zI μ t 16 else zI μ (t + 10) p.toNat
def sAhead (S : zSn) (o : Nat) : List Int := (sB S (sP S o)).takeWhile (fun x => decide (x ≠ -(o : Int) - 1))
def pSc (μ : zM) (t : Nat) (S : zSn) : Prop :=
  zI μ t 1 = (sNm S).length ∧ (∀ i, i < (sNm S).length → zI μ (t + 1) i = (sNm S).getD i 0) ∧ zI μ t 2 = sN S ∧
  (∀ o, o < sN S → zI μ (t + 2) o = sF S o ∧ zI μ (t + 3) o = sC S o ∧ zI μ (t + 4) o = sD S o ∧ zI μ (t + 5) o = sP S o ∧ zI μ (t + 6) o = sG S o) ∧
  (∀ f, f < 10 → zI μ (t + 7) f = sE S f) ∧
  (zr (zI μ t 3) ∧ ∀ i, i < 32 → mbit (zI μ t 3) i = decide (∃ o, o < sN S ∧ sF S o = i)) ∧
  (0 ≤ zI μ t 15 ∧ zI μ t 15 ≤ zI μ t 16 ∧ zI μ t 16 ≤ 700 ∧ zI μ t 16 - zI μ t 15 - sN S = sT S) ∧
  (∀ p, isPart S p → zI μ (t + 8) (p + 1).toNat = lits (sB S p) ∧ 0 ≤ cFirst μ t p ∧ cFirst μ t p ≤ cEnd μ t p ∧ cEnd μ t p ≤ 700 ∧ pSel μ (zit t) p (cFirst μ t p).toNat (cEnd μ t p - cFirst μ t p).toNat = sB S p) ∧
  (∀ o, o < sN S → cFirst μ t (sP S o) ≤ zI μ (t + 9) o ∧ zI μ (t + 9) o ≤ 700 ∧ pSel μ (zit t) (sP S o) (cFirst μ t (sP S o)).toNat (zI μ (t + 9) o - cFirst μ t (sP S o)).toNat = sAhead S o)
/-- the reference's rows: a walk from place a to place b tells the list -/
def pWk (μ : zM) (b k : Nat) : Int → Int → List Int → Prop
  | a, e, [] => a = e
  | a, e, x :: l => 0 ≤ a ∧ a < e ∧ ((0 ≤ x ∧ zI μ (b + 4) a.toNat = x ∧ pWk μ b k (a + 1) e l) ∨ (x < 0 ∧ zI μ (b + 4) a.toNat = 1000 + (-x - 1) ∧ (a ≤ zI μ (b + 11) (60 * k + (-x - 1).toNat) ∧ zI μ (b + 10) (60 * k + (-x - 1).toNat) = a) ∧ pWk μ b k (zI μ (b + 11) (60 * k + (-x - 1).toNat) + 1) e l))
def mFirst (μ : zM) (b k : Nat) (p : Int) : Int := if p = -1 then zI μ (b + 3) k else zI μ (b + 10) (60 * k + p.toNat) + 1
def mEnd (μ : zM) (b k : Nat) (p : Int) : Int := if p = -1 then zI μ (b + 3) (k + 1) else zI μ (b + 11) (60 * k + p.toNat)
def cnt (P : Nat → Bool) : Nat → Nat
  | 0 => 0
  | n + 1 => cnt P n + if P n then 1 else 0
def pSm (μ : zM) (b k : Nat) (S : zSn) : Prop :=
  zI μ (b + 2) k = (sNm S).length ∧ (∀ i, i < (sNm S).length → zI μ (b + 1) (8 * k + i) = (sNm S).getD i 0) ∧ zI μ (b + 5) k = sN S ∧
  (∀ o, o < sN S → zI μ (b + 6) (60 * k + o) = sF S o ∧ zI μ (b + 7) (60 * k + o) = sC S o ∧ zI μ (b + 8) (60 * k + o) = sD S o ∧ zI μ (b + 9) (60 * k + o) = sP S o ∧ zI μ (b + 12) (60 * k + o) = sG S o) ∧
  (∀ f, f < 10 → zI μ (b + 13) (10 * k + f) = sE S f) ∧
  (0 ≤ zI μ (b + 3) k ∧ zI μ (b + 3) k ≤ zI μ (b + 3) (k + 1) ∧ zI μ (b + 3) (k + 1) ≤ 700 ∧ zI μ (b + 3) (k + 1) - zI μ (b + 3) k - sN S - cnt (fun o => decide (sD S o = 1)) (sN S) = sT S) ∧
  (∀ p, isPart S p → 0 ≤ mFirst μ b k p ∧ mFirst μ b k p ≤ mEnd μ b k p ∧ mEnd μ b k p ≤ 700 ∧ pWk μ b k (mFirst μ b k p) (mEnd μ b k p) (sB S p))
/-! WHAT IS SHOWN, with these fields typed: after k occurrences, which are shown, and of each field the occurrence whose default is shown -/
def updB (f : Nat → Bool) (k : Nat) (v : Bool) : Nat → Bool := fun i => if i = k then v else f i
def updI (f : Nat → Int) (k : Nat) (v : Int) : Nat → Int := fun i => if i = k then v else f i
def vHere (S : zSn) (s : (Nat → Bool) × (Nat → Int)) (k : Nat) : Bool := decide (sP S k = -1) || decide (s.2 (sF S (sP S k).toNat).toNat = sP S k)
def vDef (S : zSn) (ty : Nat → Bool) (s : (Nat → Bool) × (Nat → Int)) (k : Nat) : Bool := vHere S s k && decide (sD S k = 1) && !ty (sF S k).toNat && decide (s.2 (sF S k).toNat = -1)
def vSt (S : zSn) (ty : Nat → Bool) : Nat → (Nat → Bool) × (Nat → Int)
  | 0 => (fun _ => false, fun _ => -1)
  | k + 1 => let s := vSt S ty k; (updB s.1 k (vHere S s k), if vDef S ty s k then updI s.2 (sF S k).toNat k else s.2)
def vSh (S : zSn) (ty : Nat → Bool) (o : Nat) : Bool := (vSt S ty (sN S)).1 o
def vSd (S : zSn) (ty : Nat → Bool) (f : Nat) : Int := (vSt S ty (sN S)).2 f
/-- the field f is live -/
def vLv (S : zSn) (ty : Nat → Bool) (f : Nat) : Bool := decide (∃ o, o < sN S ∧ vSh S ty o = true ∧ sF S o = f)
/-- the shown occurrences of a field -/
def vCn (S : zSn) (ty : Nat → Bool) (f : Nat) : Nat := cnt (fun o => vSh S ty o && decide (sF S o = f)) (sN S)
theorem vSt_keep (S : zSn) (ty : Nat → Bool) {o k : Nat} (h : o < k) : (vSt S ty k).1 o = (vSt S ty (o + 1)).1 o := by
  induction k with
  | zero => omega
  | succ k ih =>
    by_cases e : o = k
    · subst e; rfl
    · rw [← ih (by omega)]
      show updB (vSt S ty k).1 k _ o = _
      unfold updB
      rw [if_neg e]
theorem vSt_new (S : zSn) (ty : Nat → Bool) {o k : Nat} (h : o < k) : (vSt S ty k).1 o = vHere S (vSt S ty o) o := by
  rw [vSt_keep S ty h]
  show updB _ o _ o = _
  unfold updB
  rw [if_pos rfl]
theorem vSh_eq (S : zSn) (ty : Nat → Bool) {o k : Nat} (h : o < k) (hk : k ≤ sN S) : vSh S ty o = (vSt S ty k).1 o := by
  unfold vSh
  rw [vSt_new S ty h, vSt_new S ty (show o < sN S by omega)]
theorem cnt_congr {P Q : Nat → Bool} {n : Nat} (h : ∀ i, i < n → P i = Q i) : cnt P n = cnt Q n := by
  induction n with
  | zero => rfl
  | succ n ih =>
    show cnt P n + _ = cnt Q n + _
    rw [ih (fun i hi => h i (by omega)), h n (by omega)]
theorem cnt_le (P : Nat → Bool) (n : Nat) : cnt P n ≤ n := by
  induction n with
  | zero => exact Nat.le_refl _
  | succ n ih => show cnt P n + _ ≤ _; split <;> omega
theorem cnt_pos {P : Nat → Bool} {n : Nat} : 0 < cnt P n ↔ ∃ i, i < n ∧ P i = true := by
  induction n with
  | zero => exact ⟨fun h => absurd h (Nat.lt_irrefl 0), fun ⟨i, h, _⟩ => by omega⟩
  | succ n ih =>
    show 0 < cnt P n + _ ↔ _
    by_cases e : P n = true
    · rw [if_pos e]
      exact ⟨fun _ => ⟨n, by omega, e⟩, fun _ => by omega⟩
    · rw [if_neg e, Nat.add_zero, ih]
      exact ⟨fun ⟨i, h1, h2⟩ => ⟨i, by omega, h2⟩, fun ⟨i, h1, h2⟩ => ⟨i, by rcases Nat.lt_or_ge i n with h | h; exact h; exact absurd (show P n = true by rw [show n = i by omega]; exact h2) e, h2⟩⟩
