/-! WHAT AN ACT DOES: a reason, or an answer and the sessions then -/
def setS (A : zA) (s : zSt) : zA := (aN A, aL A, s, aU A, aV A, aB A, aE A, aC A)
def setB (A : zA) (b : List Int) : zA := (aN A, aL A, aS A, aU A, aV A, b, aE A, aC A)
def aRef (A : zA) (r : Nat) : zA := (aN A, aL A, aS A, aU A, aV A, aB A, aE A, fun i => if i = r then aC A r + 1 else aC A i)
def aDone (A : zA) (s : zSt) : zA := (aN A, aL A, s, (aS A :: aU A).take 8, aV A, aB A, aE A, fun i => if i = 0 then aC A 0 + 1 else aC A i)
def actA (A : zA) : Nat ⊕ (Int × zSt) → Int × zA
  | .inl r => (-(r : Int), aRef A r)
  | .inr p => (p.1, aDone A p.2)
def hTx (L : Nat → zSn) (s : zSt) (l : Nat) : List Int := vTx (hS L s l) (hT s l) (tX s l)
/-- the current field of a level -/
def hC (s : zSt) (l : Nat) : Nat := (tC s l).toNat
def stTp (s : zSt) (l : Nat) (x : List Int) : zSt := stType s l (hC s l) (tX s l (hC s l) ++ x)
def spEnd (L : Nat → zSn) (s : zSt) : Nat ⊕ zSt :=
  if tD s - 1 = 0 then (if (tDoc s).length + (hTx L s 0).length > 600 then .inl 9 else .inr (stDep (stDoc s (hTx L s 0)) 0))
  else if (tX s (tD s - 1 - 1) (hC s (tD s - 1 - 1))).length + (hTx L s (tD s - 1)).length > 40 then .inl 4
  else if hTL L (stTp s (tD s - 1 - 1) (hTx L s (tD s - 1))) (tD s - 1 - 1) > 400 then .inl 3
  else .inr (stDep (stTp s (tD s - 1 - 1) (hTx L s (tD s - 1))) (tD s - 1))
def nxE (f : zSt → Int) : Nat ⊕ zSt → Nat ⊕ (Int × zSt)
  | .inl r => .inl r
  | .inr s => .inr (f s, s)
def curN (s : zSt) : Int := if tD s = 0 then 10 else tC s (tD s - 1)
def spExpand (A : zA) (k : Nat) : Nat ⊕ (Int × zSt) :=
  if qD A = 4 then .inl 2
  else if vTL (aL A k) (fun _ => false) (fun _ => 0) > 400 then .inl 3
  else if vOrd (aL A k) (fun _ => false) (tO (aS A)) = [] then nxE (fun s => (tD s : Nat)) (spEnd (aL A) (stPush (aS A) k 0))
  else .inr ((qD A + 1 : Nat), stPush (aS A) k ((vOrd (aL A k) (fun _ => false) (tO (aS A))).getD 0 0 : Nat))
def spType (A : zA) (x : List Int) : Nat ⊕ (Int × zSt) :=
  if qD A = 0 then .inl 1
  else if (qX A (qC A)).length + x.length > 40 then .inl 4
  else if hTL (aL A) (stTp (aS A) (qD A - 1) x) (qD A - 1) > 400 then .inl 3
  else .inr (((qX A (qC A)).length + x.length : Nat), stTp (aS A) (qD A - 1) x)
def stEr (A : zA) : zSt := stType (stUntype (aS A) (qD A - 1) (qC A)) (qD A - 1) (qC A) ((vV (qS A) (qT A) (qX A) (qC A)).take ((vV (qS A) (qT A) (qX A) (qC A)).length - 1))
def spErase (A : zA) : Nat ⊕ (Int × zSt) :=
  if qD A = 0 then .inl 1
  else if (vV (qS A) (qT A) (qX A) (qC A)).length = 0 then .inl 5
  else if (vV (qS A) (qT A) (qX A) (qC A)).length - 1 > 40 then .inl 4
  else if hTL (aL A) (stEr A) (qD A - 1) > 400 then .inl 3
  else .inr (((vV (qS A) (qT A) (qX A) (qC A)).length - 1 : Nat), stEr A)
def stRs (A : zA) : zSt := stUntype (aS A) (qD A - 1) (qC A)
def spReset (A : zA) : Nat ⊕ (Int × zSt) :=
  if qD A = 0 then .inl 1
  else if qT A (qC A) = false then .inl 6
  else if hTL (aL A) (stRs A) (qD A - 1) > 400 then .inl 3
  else .inr ((vL (qS A) (hT (stRs A) (qD A - 1)) (hN (stRs A) (qD A - 1)) (qC A) : Nat), stRs A)
def spNext (A : zA) : Nat ⊕ (Int × zSt) :=
  if qD A = 0 then .inl 1
  else if plc (qO A) (qC A) + 1 < (qO A).length then .inr (((qO A).getD (plc (qO A) (qC A) + 1).toNat 0 : Nat), stCur (aS A) (qD A - 1) ((qO A).getD (plc (qO A) (qC A) + 1).toNat 0 : Nat))
  else nxE curN (spEnd (aL A) (aS A))
def spPrev (A : zA) : Nat ⊕ (Int × zSt) :=
  if qD A = 0 then .inl 1
  else if plc (qO A) (qC A) ≤ 0 then .inl 7
  else .inr (((qO A).getD (plc (qO A) (qC A) - 1).toNat 0 : Nat), stCur (aS A) (qD A - 1) ((qO A).getD (plc (qO A) (qC A) - 1).toNat 0 : Nat))
def spGo (A : zA) (f : Nat) : Nat ⊕ (Int × zSt) :=
  if qD A = 0 then .inl 1
  else if vLv (qS A) (qT A) f = false then .inl 8
  else .inr ((qC A : Nat), stCur (aS A) (qD A - 1) (f : Nat))
def spFinish (A : zA) : Nat ⊕ (Int × zSt) := if qD A = 0 then .inl 1 else nxE (fun s => (tD s : Nat)) (spEnd (aL A) (aS A))
def spDrop (A : zA) : Nat ⊕ (Int × zSt) := if qD A = 0 then .inl 1 else .inr ((qD A - 1 : Nat), stDep (aS A) (qD A - 1))
def spOrder (A : zA) (o : Int) : Nat ⊕ (Int × zSt) := .inr (tO (aS A), stOrd (aS A) o)
/-! two rows of sessions that say the same -/
def sEq (s1 s2 : zSt) : Prop := tO s1 = tO s2 ∧ tD s1 = tD s2 ∧ tDoc s1 = tDoc s2 ∧ ∀ l, l < tD s1 → tS s1 l = tS s2 l ∧ tC s1 l = tC s2 l ∧ tY s1 l = tY s2 l ∧ ∀ f, tX s1 l f = tX s2 l f
theorem sEq.h {L : Nat → zSn} {s1 s2 : zSt} (h : sEq s1 s2) {l : Nat} (hl : l < tD s1) : hS L s1 l = hS L s2 l ∧ hT s1 l = hT s2 l ∧ tX s1 l = tX s2 l ∧ hTL L s1 l = hTL L s2 l := by
  obtain ⟨h1, h2, h3, h4⟩ := h.2.2.2 l hl
  have e1 : hS L s1 l = hS L s2 l := by unfold hS; rw [h1]
  have e2 : hT s1 l = hT s2 l := by unfold hT; rw [h3]
  have e3 : tX s1 l = tX s2 l := funext h4
  have e4 : hN s1 l = hN s2 l := by unfold hN; rw [e3]
  exact ⟨e1, e2, e3, by unfold hTL; rw [e1, e2, e4]⟩
theorem sEq.symm {s1 s2 : zSt} (h : sEq s1 s2) : sEq s2 s1 := ⟨h.1.symm, h.2.1.symm, h.2.2.1.symm, fun l hl => by
  have g := h.2.2.2 l (by rw [h.2.1]; exact hl)
  exact ⟨g.1.symm, g.2.1.symm, g.2.2.1.symm, fun f => (g.2.2.2 f).symm⟩⟩
theorem sEq.w {n : Nat} {L : Nat → zSn} {s1 s2 : zSt} (h : sEq s1 s2) (hw : wLv n L s1) : wLv n L s2 := by
  obtain ⟨⟨a1, a2, a3, a4⟩, b⟩ := hw
  refine ⟨⟨by rw [← h.1]; exact a1, by rw [← h.2.1]; exact a2, by rw [← h.2.2.1]; exact a3, fun l hl => ?_⟩, fun l hl => ?_⟩
  · have hl1 : l < tD s1 := by rw [h.2.1]; exact hl
    obtain ⟨g1, g2, g3, g4⟩ := h.2.2.2 l hl1
    obtain ⟨c1, c2, c3, c4, c5⟩ := a4 l hl1
    rw [← g3]
    exact ⟨c1, c2, c3, c4, fun f hf => by rw [← g4 f]; exact c5 f hf⟩
  · have hl1 : l < tD s1 := by rw [h.2.1]; exact hl
    obtain ⟨e1, e2, e3, e4⟩ := h.h (L := L) hl1
    obtain ⟨g1, g2, g3, g4⟩ := h.2.2.2 l hl1
    rw [← g1, ← g2, ← e1, ← e2, ← e4]
    exact b l hl1
theorem pSt_eq {μ : zM} {c : Nat} {s1 s2 : zSt} (h : sEq s1 s2) (hp : pSt μ c s1) : pSt μ c s2 := by
  obtain ⟨a1, a2, a3, a4, a5, a6⟩ := hp
  refine ⟨a1.trans h.1, by rw [a2, h.2.1], by rw [a3, h.2.2.1], fun l hl => ?_, fun l hl f hf => ?_, by rw [← h.2.2.1]; exact a6⟩
  · obtain ⟨g1, g2, g3, g4⟩ := h.2.2.2 l (by rw [h.2.1]; exact hl)
    rw [← g1, ← g2, ← g3]; exact a4 l (by rw [h.2.1]; exact hl)
  · obtain ⟨g1, g2, g3, g4⟩ := h.2.2.2 l (by rw [h.2.1]; exact hl)
    rw [← g4 f]; exact a5 l (by rw [h.2.1]; exact hl) f hf
/-! what acts keep -/
section wActs
variable {n : Nat} {L : Nat → zSn} {s : zSt} {l f : Nat}
theorem wLv.dep (h : wLv n L s) {d : Nat} (hd : d ≤ tD s) : wLv n L (stDep s d) := by
  obtain ⟨⟨a1, a2, a3, a4⟩, b⟩ := h
  exact ⟨⟨a1, Nat.le_trans hd a2, a3, fun l hl => a4 l (Nat.lt_of_lt_of_le hl hd)⟩, fun l hl => b l (Nat.lt_of_lt_of_le hl hd)⟩
theorem wLv.ord (h : wLv n L s) {o : Int} (ho : o = 0 ∨ o = 1) : wLv n L (stOrd s o) := by
  obtain ⟨⟨a1, a2, a3, a4⟩, b⟩ := h
  exact ⟨⟨ho, a2, a3, a4⟩, b⟩
theorem wLv.doc (h : wLv n L s) {x : List Int} (hx : (tDoc s).length + x.length ≤ 600) : wLv n L (stDoc s x) := by
  obtain ⟨⟨a1, a2, a3, a4⟩, b⟩ := h
  refine ⟨⟨a1, a2, ?_, a4⟩, b⟩
  show (tDoc s ++ x).length ≤ 600
  rw [List.length_append]; exact hx
theorem wLv.cur (h : wLv n L s) (hl : l < tD s) (hf : f < 10) (hv : vLv (hS L s l) (hT s l) f = true) : wLv n L (stCur s l (f : Nat)) := by
  obtain ⟨⟨a1, a2, a3, a4⟩, b⟩ := h
  have e : ∀ l', tC (stCur s l (f : Nat)) l' = if l' = l then (f : Int) else tC s l' := fun l' => rfl
  refine ⟨⟨a1, a2, a3, fun l' hl' => ?_⟩, fun l' hl' => ?_⟩
  · obtain ⟨c1, c2, c3, c4, c5⟩ := a4 l' hl'
    by_cases q : l' = l
    · exact ⟨trivial, trivial, c3, c4, c5⟩
    · exact ⟨trivial, trivial, c3, c4, c5⟩
  · obtain ⟨c1, c2, c3, c4⟩ := b l' hl'
    rw [e]
    refine ⟨c1, c2, ?_, c4⟩
    by_cases q : l' = l
    · rw [if_pos q, q]; exact ⟨hv, by omega⟩
    · rw [if_neg q]; exact c3
/-- one field of a level is written anew -/
theorem wLv.fld (hW : ∀ k, k < n → wS (L k)) (h : wLv n L s) (hl : l < tD s) {y : Int} {x : List Int} (hf : f = hC s l) (hy : zr y) (hyb : ∀ g, g ≠ f → mbit y g = mbit (tY s l) g) (hx : x.length ≤ 40) (hx0 : mbit y f = false → x = [])
    (hT4 : hTL L (tO s, tD s, tS s, tC s, updI (tY s) l y, updX (tX s) l f x, tDoc s) l ≤ 400) : wLv n L (tO s, tD s, tS s, tC s, updI (tY s) l y, updX (tX s) l f x, tDoc s) := by
  obtain ⟨⟨a1, a2, a3, a4⟩, b⟩ := h
  have hfl := a4 l hl
  have hf10 : f < 10 := by rw [hf]; exact vLv_lt (hW _ (by have := b l hl; omega)) (b l hl).2.2.1.1
  refine ⟨⟨a1, a2, a3, fun l' hl' => ?_⟩, fun l' hl' => ?_⟩
  · obtain ⟨c1, c2, c3, c4, c5⟩ := a4 l' hl'
    have eY : tY (tO s, tD s, tS s, tC s, updI (tY s) l y, updX (tX s) l f x, tDoc s) l' = if l' = l then y else tY s l' := rfl
    have eX : ∀ g, tX (tO s, tD s, tS s, tC s, updI (tY s) l y, updX (tX s) l f x, tDoc s) l' g = if l' = l ∧ g = f then x else tX s l' g := fun g => rfl
    rw [eY]
    by_cases q : l' = l
    · subst q
      rw [if_pos rfl]
      refine ⟨c1, c2, hy, fun i h1 h2 => by rw [hyb i (by omega)]; exact c4 i h1 h2, fun g hg => ?_⟩
      rw [eX]
      by_cases q2 : g = f
      · rw [if_pos ⟨rfl, q2⟩, q2]; exact ⟨hx, hx0⟩
      · rw [if_neg (fun h => q2 h.2), hyb g q2]; exact c5 g hg
    · rw [if_neg q]
      refine ⟨c1, c2, c3, c4, fun g hg => ?_⟩
      rw [eX, if_neg (fun h => q h.1)]; exact c5 g hg
  · obtain ⟨c1, c2, c3, c4⟩ := b l' hl'
    by_cases q : l' = l
    · subst q
      refine ⟨c1, c2, ⟨?_, c3.2⟩, hT4⟩
      have e : hT (tO s, tD s, tS s, tC s, updI (tY s) l' y, updX (tX s) l' f x, tDoc s) l' = fun g => mbit y g := by funext g; show mbit (if l' = l' then y else tY s l') g = _; rw [if_pos rfl]
      rw [e]
      show vLv (hS L s l') (fun g => mbit y g) (hC s l') = true
      rw [← hf]
      have e5 := vLv_own (hW _ (show (tS s l').toNat < n by omega)) hf10 (ty := hT s l') (ty2 := fun g => mbit y g) (fun g hg => (hyb g hg).symm)
      exact e5.symm.trans (by rw [hf]; exact c3.1)
    · refine ⟨c1, c2, ?_, ?_⟩
      · have e : hT (tO s, tD s, tS s, tC s, updI (tY s) l y, updX (tX s) l f x, tDoc s) l' = hT s l' := by funext g; show mbit (if l' = l then y else tY s l') g = _; rw [if_neg q]; rfl
        rw [e]; exact c3
      · have e : hT (tO s, tD s, tS s, tC s, updI (tY s) l y, updX (tX s) l f x, tDoc s) l' = hT s l' := by funext g; show mbit (if l' = l then y else tY s l') g = _; rw [if_neg q]; rfl
        have e2 : hN (tO s, tD s, tS s, tC s, updI (tY s) l y, updX (tX s) l f x, tDoc s) l' = hN s l' := by funext g; show (if l' = l ∧ g = f then x else tX s l' g).length = _; rw [if_neg (fun h => q h.1)]; rfl
        unfold hTL
        rw [e, e2]
        exact c4
theorem wLv.type (hW : ∀ k, k < n → wS (L k)) (h : wLv n L s) (hl : l < tD s) (hf : f = hC s l) {x : List Int} (hx : x.length ≤ 40) (hT4 : hTL L (stType s l f x) l ≤ 400) : wLv n L (stType s l f x) := by
  have hf10 : f < 10 := by rw [hf]; exact vLv_lt (hW _ (by have := h.2 l hl; omega)) (h.2 l hl).2.2.1.1
  refine h.fld hW hl hf (zr_of _) (fun g hg => by rw [mb_on hf10, if_neg hg]) hx (fun q => ?_) hT4
  rw [mb_on hf10, if_pos rfl] at q; cases q
theorem wLv.untype (hW : ∀ k, k < n → wS (L k)) (h : wLv n L s) (hl : l < tD s) (hf : f = hC s l) (hT4 : hTL L (stUntype s l f) l ≤ 400) : wLv n L (stUntype s l f) := by
  have hf10 : f < 10 := by rw [hf]; exact vLv_lt (hW _ (by have := h.2 l hl; omega)) (h.2 l hl).2.2.1.1
  exact h.fld hW hl hf (zr_of _) (fun g hg => by rw [mb_off hf10, if_neg hg]) (Nat.zero_le _) (fun _ => rfl) hT4
theorem push_h (L : Nat → zSn) (s : zSt) (k : Nat) (c : Int) : hS L (stPush s k c) (tD s) = L k ∧ hT (stPush s k c) (tD s) = (fun _ => false) ∧ tX (stPush s k c) (tD s) = (fun _ => []) ∧ hN (stPush s k c) (tD s) = (fun _ => 0) := by
  have e1 : tS (stPush s k c) (tD s) = k := by show (if tD s = tD s then (k : Int) else _) = _; rw [if_pos rfl]
  have e2 : tY (stPush s k c) (tD s) = 0 := by show (if tD s = tD s then (0 : Int) else _) = _; rw [if_pos rfl]
  have e3 : tX (stPush s k c) (tD s) = (fun _ => []) := by funext f; show (if tD s = tD s then [] else _) = _; rw [if_pos rfl]
  refine ⟨by unfold hS; rw [e1]; rfl, by unfold hT; rw [e2]; funext f; exact mbit_0 f, e3, by unfold hN; rw [e3]; rfl⟩
theorem push_lo (s : zSt) (k : Nat) (c : Int) {l : Nat} (hl : l < tD s) : tS (stPush s k c) l = tS s l ∧ tC (stPush s k c) l = tC s l ∧ tY (stPush s k c) l = tY s l ∧ tX (stPush s k c) l = tX s l := by
  refine ⟨?_, ?_, ?_, ?_⟩
  · show (if l = tD s then _ else _) = _; rw [if_neg (by omega)]
  · show (if l = tD s then _ else _) = _; rw [if_neg (by omega)]
  · show (if l = tD s then _ else _) = _; rw [if_neg (by omega)]
  · funext f; show (if l = tD s then _ else _) = _; rw [if_neg (by omega)]
theorem wLv.push (h : wLv n L s) (hd : tD s < 4) {k : Nat} (hk : k < n) {c : Nat} (hc : c < 10) (hv : vLv (L k) (fun _ => false) c = true) (hT4 : vTL (L k) (fun _ => false) (fun _ => 0) ≤ 400) : wLv n L (stPush s k (c : Nat)) := by
  obtain ⟨⟨a1, a2, a3, a4⟩, b⟩ := h
  obtain ⟨p1, p2, p3, p4⟩ := push_h L s k (c : Nat)
  refine ⟨⟨a1, by show tD s + 1 ≤ 4; omega, a3, fun l hl => ?_⟩, fun l hl => ?_⟩
  · have hl' : l < tD s + 1 := hl
    by_cases q : l = tD s
    · have e1 : tC (stPush s k (c : Nat)) l = (c : Int) := by show (if l = tD s then _ else _) = _; rw [if_pos q]
      have e2 : tY (stPush s k (c : Nat)) l = 0 := by show (if l = tD s then _ else _) = _; rw [if_pos q]
      rw [e2, q, p3]
      exact ⟨trivial, trivial, ⟨by decide, by decide⟩, fun i _ _ => mbit_0 i, fun f _ => ⟨Nat.zero_le _, fun _ => rfl⟩⟩
    · obtain ⟨e1, e2, e3, e4⟩ := push_lo s k (c : Nat) (show l < tD s by omega)
      rw [e3, e4]; exact a4 l (by omega)
  · have hl' : l < tD s + 1 := hl
    by_cases q : l = tD s
    · have e1 : tC (stPush s k (c : Nat)) l = (c : Int) := by show (if l = tD s then _ else _) = _; rw [if_pos q]
      have e2 : tS (stPush s k (c : Nat)) l = (k : Int) := by show (if l = tD s then _ else _) = _; rw [if_pos q]
      rw [e1, e2]
      unfold hTL
      rw [q, p1, p2, p4]
      exact ⟨by omega, by omega, ⟨hv, by omega⟩, hT4⟩
    · obtain ⟨e1, e2, e3, e4⟩ := push_lo s k (c : Nat) (show l < tD s by omega)
      have h1 : hS L (stPush s k (c : Nat)) l = hS L s l := by unfold hS; rw [e1]
      have h2 : hT (stPush s k (c : Nat)) l = hT s l := by unfold hT; rw [e3]
      have h3 : hN (stPush s k (c : Nat)) l = hN s l := by unfold hN; rw [e4]
      unfold hTL
      rw [e1, e2, h1, h2, h3]; exact b l (by omega)
/-- the end of a session whose outer ones are in order -/
theorem spEnd_w (hW : ∀ k, k < n → wS (L k)) {s0 : zSt} (h : wLv n L s0) (he : sEq s0 (stDep s (tD s - 1))) (hd : tD s ≠ 0) {s' : zSt} (hs : spEnd L s = .inr s') : wLv n L s' := by
  have hd1 : tD s0 = tD s - 1 := he.2.1
  unfold spEnd at hs
  by_cases h0 : tD s - 1 = 0
  · rw [if_pos h0] at hs
    by_cases h1 : (tDoc s).length + (hTx L s 0).length > 600
    · rw [if_pos h1] at hs; cases hs
    · rw [if_neg h1] at hs
      have e : s' = stDep (stDoc s (hTx L s 0)) 0 := (Sum.inr.inj hs).symm
      have h9 := (h.doc (x := hTx L s 0) (by have := congrArg List.length he.2.2.1; have e9 : tDoc (stDep s (tD s - 1)) = tDoc s := rfl; rw [e9] at this; omega)).dep (d := 0) (Nat.zero_le _)
      refine sEq.w ?_ h9
      rw [e]
      refine ⟨he.1, rfl, ?_, fun l hl => absurd hl (Nat.not_lt_zero l)⟩
      show tDoc s0 ++ hTx L s 0 = tDoc s ++ hTx L s 0
      rw [he.2.2.1]; rfl
  · rw [if_neg h0] at hs
    by_cases h1 : (tX s (tD s - 1 - 1) (hC s (tD s - 1 - 1))).length + (hTx L s (tD s - 1)).length > 40
    · rw [if_pos h1] at hs; cases hs
    · rw [if_neg h1] at hs
      by_cases h2 : hTL L (stTp s (tD s - 1 - 1) (hTx L s (tD s - 1))) (tD s - 1 - 1) > 400
      · rw [if_pos h2] at hs; cases hs
      · rw [if_neg h2] at hs
        have e : s' = stDep (stTp s (tD s - 1 - 1) (hTx L s (tD s - 1))) (tD s - 1) := (Sum.inr.inj hs).symm
        have hl : tD s - 1 - 1 < tD s0 := by omega
        have hg := he.2.2.2 _ hl
        have hcc : hC s0 (tD s - 1 - 1) = hC s (tD s - 1 - 1) := by unfold hC; rw [hg.2.1]; rfl
        have hxx : ∀ f, tX s0 (tD s - 1 - 1) f = tX s (tD s - 1 - 1) f := hg.2.2.2
        have hE : sEq (stTp s0 (tD s - 1 - 1) (hTx L s (tD s - 1))) s' := by
          rw [e]
          refine ⟨he.1, he.2.1, he.2.2.1, fun l hl2 => ?_⟩
          have hg2 := he.2.2.2 l hl2
          refine ⟨hg2.1, hg2.2.1, ?_, fun f => ?_⟩
          · show (if l = tD s - 1 - 1 then zor (tY s0 (tD s - 1 - 1)) (zshl 1 (hC s0 (tD s - 1 - 1) : Nat)) else tY s0 l) = (if l = tD s - 1 - 1 then zor (tY s (tD s - 1 - 1)) (zshl 1 (hC s (tD s - 1 - 1) : Nat)) else tY s l)
            rw [hcc, hg.2.2.1, hg2.2.2.1]; rfl
          · show (if l = tD s - 1 - 1 ∧ f = hC s0 (tD s - 1 - 1) then tX s0 (tD s - 1 - 1) (hC s0 (tD s - 1 - 1)) ++ hTx L s (tD s - 1) else tX s0 l f) = (if l = tD s - 1 - 1 ∧ f = hC s (tD s - 1 - 1) then tX s (tD s - 1 - 1) (hC s (tD s - 1 - 1)) ++ hTx L s (tD s - 1) else tX s l f)
            rw [hcc, hxx, hg2.2.2.2 f]; rfl
        refine hE.w (wLv.type hW h hl rfl ?_ ?_)
        · rw [List.length_append, hcc, hxx]; omega
        · have h9 := (hE.h (L := L) (l := tD s - 1 - 1) (by show tD s - 1 - 1 < tD s0; exact hl)).2.2.2
          have h10 : hTL L s' (tD s - 1 - 1) = hTL L (stTp s (tD s - 1 - 1) (hTx L s (tD s - 1))) (tD s - 1 - 1) := by rw [e]; rfl
          unfold stTp at h9 h10 h2
          omega
theorem spEnd_r {r : Nat} (h : spEnd L s = .inl r) : r = 9 ∨ r = 4 ∨ r = 3 := by
  unfold spEnd at h
  split at h
  · split at h
    · exact Or.inl (Sum.inl.inj h).symm
    · cases h
  · split at h
    · exact Or.inr (Or.inl (Sum.inl.inj h).symm)
    · split at h
      · exact Or.inr (Or.inr (Sum.inl.inj h).symm)
      · cases h
end wActs
/-- an act that is in order -/
def okAct (A : zA) (o : Nat ⊕ (Int × zSt)) : Prop := (∀ r, o = .inl r → 1 ≤ r ∧ r ≤ 9) ∧ ∀ p, o = .inr p → wLv (aN A) (aL A) p.2
theorem okAct.l {A : zA} {r : Nat} (h1 : 1 ≤ r) (h2 : r ≤ 9) : okAct A (.inl r) := ⟨fun r' h => (by rw [← Sum.inl.inj h]; exact ⟨h1, h2⟩), fun p h => (by cases h)⟩
theorem okAct.r {A : zA} {p : Int × zSt} (h : wLv (aN A) (aL A) p.2) : okAct A (.inr p) := ⟨fun r' h => (by cases h), fun p' h' => (by rw [← Sum.inr.inj h']; exact h)⟩
theorem okAct.e {A : zA} {f : zSt → Int} {s s0 : zSt} (hA : ∀ k, k < aN A → wS (aL A k)) (h : wLv (aN A) (aL A) s0) (he : sEq s0 (stDep s (tD s - 1))) (hd : tD s ≠ 0) : okAct A (nxE f (spEnd (aL A) s)) := by
  cases e : spEnd (aL A) s with
  | inl r => have := spEnd_r e; exact okAct.l (by omega) (by omega)
  | inr s' => exact okAct.r (spEnd_w hA h he hd e)
theorem wA.act {A : zA} {c : Int} {o : Nat ⊕ (Int × zSt)} (hA : wA c A) (ho : okAct A o) : wA (c + 1) (actA A o).2 := by
  obtain ⟨h1, h2, h3, h4, h5, h6⟩ := hA
  cases o with
  | inl r =>
    refine ⟨h1, h2, h3, h4, h5, fun i hi => ?_⟩
    have a := h6 i hi
    show 0 ≤ (if i = r then aC A r + 1 else aC A i) ∧ (if i = r then aC A r + 1 else aC A i) ≤ c + 1
    by_cases e : i = r
    · rw [if_pos e, ← e]; omega
    · rw [if_neg e]; omega
  | inr p =>
    refine ⟨h1, ho.2 p rfl, ⟨?_, fun s hs => ?_⟩, h4, h5, fun i hi => ?_⟩
    · show ((aS A :: aU A).take 8).length ≤ 8
      rw [List.length_take]; omega
    · have hs' : s ∈ (aS A :: aU A).take 8 := hs
      rcases List.mem_cons.mp (List.mem_of_mem_take hs') with h | h
      · rw [h]; exact h2
      · exact h3.2 s h
    · have a := h6 i hi
      show 0 ≤ (if i = 0 then aC A 0 + 1 else aC A i) ∧ (if i = 0 then aC A 0 + 1 else aC A i) ≤ c + 1
      by_cases e : i = 0
      · rw [if_pos e, ← e]; omega
      · rw [if_neg e]; omega
section okActs
variable {A : zA} {c : Int}
theorem dep_self (s : zSt) (d : Nat) : sEq (stDep s d) (stDep s d) := ⟨rfl, rfl, rfl, fun _ _ => ⟨rfl, rfl, rfl, fun _ => rfl⟩⟩
theorem plc_in : ∀ (l : List Nat) (f : Nat), f ∈ l → 0 ≤ plc l f ∧ plc l f < l.length := by
  intro l
  induction l with
  | nil => intro f h; exact absurd h List.not_mem_nil
  | cons x r ih =>
    intro f h
    have e : plc (x :: r) f = if x = f then 0 else if plc r f = -1 then -1 else plc r f + 1 := rfl
    rw [e, List.length_cons]
    by_cases q : x = f
    · rw [if_pos q]; omega
    · rw [if_neg q]
      have := ih f ((List.mem_cons.mp h).resolve_left (fun w => q w.symm))
      rw [if_neg (by omega)]; omega
theorem getD_mem {l : List Nat} {i : Nat} (h : i < l.length) : l.getD i 0 ∈ l := by
  rw [List.getD_eq_getElem?_getD, List.getElem?_eq_getElem h]
  exact List.getElem_mem h
theorem qO_in (hA : wA c A) (hq : qD A ≠ 0) {x : Nat} : x ∈ qO A ↔ vLv (qS A) (qT A) x = true := vOrd_mem (q_facts hA hq).1 _ _ x
theorem ok_cur (hA : wA c A) (hq : qD A ≠ 0) {f : Nat} (h : vLv (qS A) (qT A) f = true) : wLv (aN A) (aL A) (stCur (aS A) (qD A - 1) (f : Nat)) :=
  hA.2.1.cur (by show qD A - 1 < qD A; omega) (vLv_lt (q_facts hA hq).1 h) h
theorem ok_next (hA : wA c A) : okAct A (spNext A) := by
  unfold spNext
  by_cases hq : qD A = 0
  · rw [if_pos hq]; exact okAct.l (by decide) (by decide)
  · rw [if_neg hq]
    have hp := plc_in (qO A) (qC A) ((qO_in hA hq).mpr (q_facts hA hq).2.2.2.2.1)
    by_cases h : plc (qO A) (qC A) + 1 < (qO A).length
    · rw [if_pos h]
      exact okAct.r (ok_cur hA hq ((qO_in hA hq).mp (getD_mem (by omega))))
    · rw [if_neg h]
      exact okAct.e hA.1.2 (hA.2.1.dep (d := qD A - 1) (by show qD A - 1 ≤ qD A; omega)) (dep_self _ _) hq
theorem ok_prev (hA : wA c A) : okAct A (spPrev A) := by
  unfold spPrev
  by_cases hq : qD A = 0
  · rw [if_pos hq]; exact okAct.l (by decide) (by decide)
  · rw [if_neg hq]
    have hp := plc_in (qO A) (qC A) ((qO_in hA hq).mpr (q_facts hA hq).2.2.2.2.1)
    by_cases h : plc (qO A) (qC A) ≤ 0
    · rw [if_pos h]; exact okAct.l (by decide) (by decide)
    · rw [if_neg h]
      exact okAct.r (ok_cur hA hq ((qO_in hA hq).mp (getD_mem (by omega))))
theorem ok_go (hA : wA c A) (f : Nat) : okAct A (spGo A f) := by
  unfold spGo
  by_cases hq : qD A = 0
  · rw [if_pos hq]; exact okAct.l (by decide) (by decide)
  · rw [if_neg hq]
    by_cases h : vLv (qS A) (qT A) f = false
    · rw [if_pos h]; exact okAct.l (by decide) (by decide)
    · rw [if_neg h]
      exact okAct.r (ok_cur hA hq (by simpa using h))
theorem ok_finish (hA : wA c A) : okAct A (spFinish A) := by
  unfold spFinish
  by_cases hq : qD A = 0
  · rw [if_pos hq]; exact okAct.l (by decide) (by decide)
  · rw [if_neg hq]
    exact okAct.e hA.1.2 (hA.2.1.dep (d := qD A - 1) (by show qD A - 1 ≤ qD A; omega)) (dep_self _ _) hq
theorem ok_drop (hA : wA c A) : okAct A (spDrop A) := by
  unfold spDrop
  by_cases hq : qD A = 0
  · rw [if_pos hq]; exact okAct.l (by decide) (by decide)
  · rw [if_neg hq]
    exact okAct.r (hA.2.1.dep (by show qD A - 1 ≤ qD A; omega))
theorem ok_order (hA : wA c A) {o : Int} (ho : o = 0 ∨ o = 1) : okAct A (spOrder A o) := okAct.r (hA.2.1.ord ho)
theorem ok_type (hA : wA c A) (x : List Int) : okAct A (spType A x) := by
  unfold spType
  by_cases hq : qD A = 0
  · rw [if_pos hq]; exact okAct.l (by decide) (by decide)
  · rw [if_neg hq]
    by_cases h : (qX A (qC A)).length + x.length > 40
    · rw [if_pos h]; exact okAct.l (by decide) (by decide)
    · rw [if_neg h]
      by_cases h2 : hTL (aL A) (stTp (aS A) (qD A - 1) x) (qD A - 1) > 400
      · rw [if_pos h2]; exact okAct.l (by decide) (by decide)
      · rw [if_neg h2]
        refine okAct.r (wLv.type hA.1.2 hA.2.1 (by show qD A - 1 < qD A; omega) rfl ?_ (Nat.not_lt.mp h2))
        have h3 : (qX A (qC A) ++ x).length ≤ 40 := by rw [List.length_append]; omega
        exact h3
theorem un_on (hA : wA c A) {l f : Nat} (hf : f < 10) (x : List Int) : stType (stUntype (aS A) l f) l f x = (tO (aS A), tD (aS A), tS (aS A), tC (aS A), updI (tY (aS A)) l (zor (zand (tY (aS A) l) (zxor (zshl 1 (f : Nat)) (-1))) (zshl 1 (f : Nat))), updX (tX (aS A)) l f x, tDoc (aS A)) := by
  have e1 : tY (stUntype (aS A) l f) l = zand (tY (aS A) l) (zxor (zshl 1 (f : Nat)) (-1)) := by show (if l = l then _ else _) = _; rw [if_pos rfl]
  have e2 : updI (tY (stUntype (aS A) l f)) l (zor (tY (stUntype (aS A) l f) l) (zshl 1 (f : Nat))) = updI (tY (aS A)) l (zor (zand (tY (aS A) l) (zxor (zshl 1 (f : Nat)) (-1))) (zshl 1 (f : Nat))) := by
    rw [e1]
    funext i
    show (if i = l then _ else (if i = l then _ else tY (aS A) i)) = (if i = l then _ else tY (aS A) i)
    by_cases q : i = l
    · rw [if_pos q, if_pos q]
    · rw [if_neg q, if_neg q, if_neg q]
  have e3 : updX (tX (stUntype (aS A) l f)) l f x = updX (tX (aS A)) l f x := by
    funext a g
    show (if a = l ∧ g = f then x else (if a = l ∧ g = f then [] else tX (aS A) a g)) = (if a = l ∧ g = f then x else tX (aS A) a g)
    by_cases q : a = l ∧ g = f
    · rw [if_pos q, if_pos q]
    · rw [if_neg q, if_neg q, if_neg q]
  unfold stType
  rw [e2, e3]
  rfl
theorem ok_erase (hA : wA c A) : okAct A (spErase A) := by
  unfold spErase
  by_cases hq : qD A = 0
  · rw [if_pos hq]; exact okAct.l (by decide) (by decide)
  · rw [if_neg hq]
    by_cases h : (vV (qS A) (qT A) (qX A) (qC A)).length = 0
    · rw [if_pos h]; exact okAct.l (by decide) (by decide)
    · rw [if_neg h]
      by_cases h1 : (vV (qS A) (qT A) (qX A) (qC A)).length - 1 > 40
      · rw [if_pos h1]; exact okAct.l (by decide) (by decide)
      · rw [if_neg h1]
        by_cases h2 : hTL (aL A) (stEr A) (qD A - 1) > 400
        · rw [if_pos h2]; exact okAct.l (by decide) (by decide)
        · rw [if_neg h2]
          have hf := (q_facts hA hq).2.2.2.1
          refine okAct.r ?_
          show wLv (aN A) (aL A) (stEr A)
          unfold stEr at h2 ⊢
          rw [un_on hA hf] at h2 ⊢
          refine hA.2.1.fld hA.1.2 (show qD A - 1 < tD (aS A) by show qD A - 1 < qD A; omega) rfl (zr_of _) (fun g hg => by rw [mb_on hf, if_neg hg, mb_off hf, if_neg hg]) (by rw [List.length_take]; omega) (fun q => ?_) (Nat.not_lt.mp h2)
          rw [mb_on hf, if_pos rfl] at q; cases q
theorem ok_reset (hA : wA c A) : okAct A (spReset A) := by
  unfold spReset
  by_cases hq : qD A = 0
  · rw [if_pos hq]; exact okAct.l (by decide) (by decide)
  · rw [if_neg hq]
    by_cases h : qT A (qC A) = false
    · rw [if_pos h]; exact okAct.l (by decide) (by decide)
    · rw [if_neg h]
      by_cases h2 : hTL (aL A) (stRs A) (qD A - 1) > 400
      · rw [if_pos h2]; exact okAct.l (by decide) (by decide)
      · rw [if_neg h2]
        exact okAct.r (wLv.untype hA.1.2 hA.2.1 (by show qD A - 1 < qD A; omega) rfl (Nat.not_lt.mp h2))
theorem ok_expand (hA : wA c A) {k : Nat} (hk : k < aN A) : okAct A (spExpand A k) := by
  have hd := hA.2.1.1.2.1
  have hW := hA.1.2 k hk
  unfold spExpand
  by_cases hq : qD A = 4
  · rw [if_pos hq]; exact okAct.l (by decide) (by decide)
  · rw [if_neg hq]
    by_cases h : vTL (aL A k) (fun _ => false) (fun _ => 0) > 400
    · rw [if_pos h]; exact okAct.l (by decide) (by decide)
    · rw [if_neg h]
      by_cases h2 : vOrd (aL A k) (fun _ => false) (tO (aS A)) = []
      · rw [if_pos h2]
        refine okAct.e hA.1.2 hA.2.1 ?_ (by show tD (aS A) + 1 ≠ 0; omega)
        refine ⟨rfl, by show tD (aS A) = tD (aS A) + 1 - 1; omega, rfl, fun l hl => ?_⟩
        obtain ⟨e1, e2, e3, e4⟩ := push_lo (aS A) k 0 hl
        exact ⟨e1.symm, e2.symm, e3.symm, fun f => (congrFun e4 f).symm⟩
      · rw [if_neg h2]
        have hm : (vOrd (aL A k) (fun _ => false) (tO (aS A))).getD 0 0 ∈ vOrd (aL A k) (fun _ => false) (tO (aS A)) := getD_mem (List.length_pos_iff.mpr h2)
        have hv := (vOrd_mem hW (fun _ => false) (tO (aS A)) _).mp hm
        exact okAct.r (hA.2.1.push (by have : qD A = tD (aS A) := rfl; omega) hk (vLv_lt hW hv) hv (Nat.not_lt.mp h))
end okActs
