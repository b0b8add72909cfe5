/-! VALUES: what is told -/
def upc (c : Int) : Int := if 97 ≤ c ∧ c ≤ 122 then c - 32 else c
def loc (c : Int) : Int := if 65 ≤ c ∧ c ≤ 90 then c + 32 else c
def dgL : Nat → Nat → List Int
  | 0, n => [48 + (n % 10 : Nat)]
  | m + 1, n => if n < 10 then [48 + (n : Int)] else dgL m (n / 10) ++ [48 + ((n % 10 : Nat) : Int)]
def dgs (n : Nat) : List Int := dgL 20 n
theorem dgL_len : ∀ m n, (dgL m n).length = dgF m n := by
  intro m
  induction m with
  | zero => intro n; rfl
  | succ m ih =>
    intro n
    show (if n < 10 then _ else _ : List Int).length = if n < 10 then 1 else dgF m (n / 10) + 1
    by_cases h : n < 10
    · rw [if_pos h, if_pos h]; rfl
    · rw [if_neg h, if_neg h, List.length_append, ih]; rfl
def chgB (c : Int) (l : List Int) : List Int := if c = 1 then l.map upc else if c = 2 then l.map loc else if c = 3 then l.reverse else if c = 4 then l.take 1 else if c = 5 then dgs l.length else l
theorem chgB_len (c : Int) (l : List Int) : (chgB c l).length = chgN c l.length := by
  unfold chgB chgN
  by_cases h1 : c = 1
  · subst h1; simp
  · rw [if_neg h1]
    by_cases h2 : c = 2
    · subst h2; simp
    · rw [if_neg h2]
      by_cases h3 : c = 3
      · subst h3; simp
      · rw [if_neg h3]
        by_cases h4 : c = 4
        · subst h4; simp; omega
        · rw [if_neg h4, if_neg h4]
          by_cases h5 : c = 5
          · rw [if_pos h5, if_pos h5]; exact dgL_len 20 _
          · rw [if_neg h5, if_neg h5]
/-- what an item tells -/
def tell1 (S : zSn) (v : Nat → List Int) (x : Int) : List Int := if 0 ≤ x then [x] else chgB (sC S (-x - 1).toNat) (v (sF S (-x - 1).toNat).toNat)
def tells (S : zSn) (v : Nat → List Int) : List Int → List Int
  | [] => []
  | x :: l => tell1 S v x ++ tells S v l
theorem tell1_len (S : zSn) (v : Nat → List Int) (x : Int) : (tell1 S v x).length = if 0 ≤ x then 1 else chgN (sC S (-x - 1).toNat) (v (sF S (-x - 1).toNat).toNat).length := by
  unfold tell1
  by_cases h : 0 ≤ x
  · rw [if_pos h, if_pos h]; rfl
  · rw [if_neg h, if_neg h, chgB_len]
theorem tells_len (S : zSn) (v : Nat → List Int) (l : List Int) : (tells S v l).length = bLen S (fun f => (v f).length) l := by
  induction l with
  | nil => rfl
  | cons x l ih =>
    show (tell1 S v x ++ tells S v l).length = _ + bLen S _ l
    rw [List.length_append, tell1_len, ih]
theorem tells_app (S : zSn) (v : Nat → List Int) (l1 l2 : List Int) : tells S v (l1 ++ l2) = tells S v l1 ++ tells S v l2 := by
  induction l1 with
  | nil => rfl
  | cons x l ih => show tell1 S v x ++ tells S v (l ++ l2) = tell1 S v x ++ tells S v l ++ tells S v l2; rw [ih, List.append_assoc]
theorem tells_congr {S : zSn} {v w : Nat → List Int} {l : List Int} (h : ∀ x ∈ l, x < 0 → v (sF S (-x - 1).toNat).toNat = w (sF S (-x - 1).toNat).toNat) : tells S v l = tells S w l := by
  induction l with
  | nil => rfl
  | cons x l ih =>
    show tell1 S v x ++ tells S v l = tell1 S w x ++ tells S w l
    rw [ih (fun y hy => h y (List.mem_cons_of_mem _ hy))]
    congr 1
    unfold tell1
    by_cases e : 0 ≤ x
    · rw [if_pos e, if_pos e]
    · rw [if_neg e, if_neg e, h x List.mem_cons_self (by omega)]
def vVN (S : zSn) (ty : Nat → Bool) (tx : Nat → List Int) : Nat → Nat → List Int
  | 0, _ => []
  | m + 1, f => if vSd S ty f = -1 then (if ty f then tx f else []) else tells S (vVN S ty tx m) (sB S (vSd S ty f))
/-- the value of a field; the TEXT -/
def vV (S : zSn) (ty : Nat → Bool) (tx : Nat → List Int) (f : Nat) : List Int := vVN S ty tx 11 f
def vTx (S : zSn) (ty : Nat → Bool) (tx : Nat → List Int) : List Int := tells S (vV S ty tx) (sB S (-1))
theorem vVN_len (S : zSn) (ty : Nat → Bool) (tx : Nat → List Int) : ∀ m f, (vVN S ty tx m f).length = vLN S ty (fun f => (tx f).length) m f := by
  intro m
  induction m with
  | zero => intro f; rfl
  | succ m ih =>
    intro f
    show (if vSd S ty f = -1 then _ else _ : List Int).length = if vSd S ty f = -1 then _ else _
    by_cases h : vSd S ty f = -1
    · rw [if_pos h, if_pos h]
      cases ty f <;> rfl
    · rw [if_neg h, if_neg h, tells_len]
      exact bLen_congr (fun x _ _ => ih _)
theorem vV_len (S : zSn) (ty : Nat → Bool) (tx : Nat → List Int) (f : Nat) : (vV S ty tx f).length = vL S ty (fun f => (tx f).length) f := vVN_len S ty tx 11 f
theorem vTx_len (S : zSn) (ty : Nat → Bool) (tx : Nat → List Int) : (vTx S ty tx).length = vTL S ty (fun f => (tx f).length) := by
  unfold vTx vTL
  rw [tells_len]
  exact bLen_congr (fun x _ _ => vV_len S ty tx _)
theorem vVN_stable {S : zSn} (hW : wS S) (ty : Nat → Bool) (tx : Nat → List Int) : ∀ (r f m m' : Nat), f < 10 → vRk S f < r → vRk S f < m → vRk S f < m' → vVN S ty tx m f = vVN S ty tx m' f := by
  intro r
  induction r with
  | zero => intro f m m' _ h; omega
  | succ r ih =>
    intro f m m' hf h0 h1 h2
    cases m with
    | zero => omega
    | succ m =>
      cases m' with
      | zero => omega
      | succ m' =>
        show (if vSd S ty f = -1 then _ else _) = (if vSd S ty f = -1 then _ else _)
        by_cases e : vSd S ty f = -1
        · rw [if_pos e, if_pos e]
        · rw [if_neg e, if_neg e]
          refine tells_congr (fun x hx hx0 => ?_)
          obtain ⟨g1, g2⟩ := sd_rank hW hf e hx hx0
          have := vRk_lt hW hf g1 g2
          exact ih _ _ _ g1 (by omega) (by omega) (by omega)
theorem vV_eq {S : zSn} (hW : wS S) (ty : Nat → Bool) (tx : Nat → List Int) {f : Nat} (hf : f < 10) : vV S ty tx f = if vSd S ty f = -1 then (if ty f then tx f else []) else tells S (vV S ty tx) (sB S (vSd S ty f)) := by
  show (if vSd S ty f = -1 then _ else _) = _
  by_cases e : vSd S ty f = -1
  · rw [if_pos e, if_pos e]
  · rw [if_neg e, if_neg e]
    refine tells_congr (fun x hx hx0 => ?_)
    obtain ⟨g1, g2⟩ := sd_rank hW hf e hx hx0
    have := vRk_lt hW hf g1 g2
    have := vRk_le hW hf
    exact vVN_stable hW ty tx 11 _ 10 11 g1 (by omega) (by omega) (by omega)
/-! a shown default's value stands whole in the TEXT -/
theorem vSd_keep {S : zSn} {ty : Nat → Bool} {k f : Nat} {o : Int} (ho : o ≠ -1) (h : (vSt S ty k).2 f = o) : ∀ n, k ≤ n → (vSt S ty n).2 f = o := by
  intro n
  induction n with
  | zero => intro hn; rw [show k = 0 by omega] at h; exact h
  | succ n ih =>
    intro hn
    by_cases e : k = n + 1
    · rw [← e]; exact h
    · have h1 := ih (by omega)
      have e2 : (vSt S ty (n + 1)).2 = if vDef S ty (vSt S ty n) n then updI (vSt S ty n).2 (sF S n).toNat n else (vSt S ty n).2 := rfl
      rw [e2]
      by_cases e3 : vDef S ty (vSt S ty n) n = true
      · rw [if_pos e3]
        unfold updI
        by_cases e4 : f = (sF S n).toNat
        · unfold vDef at e3
          simp only [Bool.and_eq_true, decide_eq_true_eq] at e3
          rw [← e4, h1] at e3
          exact absurd e3.2 ho
        · rw [if_neg e4]; exact h1
      · rw [if_neg e3]; exact h1
/-- an occurrence is shown if it is in the body, or in a default that is shown -/
theorem vSh_iff {S : zSn} (hW : wS S) (ty : Nat → Bool) {o : Nat} (ho : o < sN S) : vSh S ty o = true ↔ sP S o = -1 ∨ ∃ q : Nat, sP S o = q ∧ q < o ∧ vSd S ty (sF S q).toNat = q := by
  rw [vSh_eq S ty ho (Nat.le_refl _), vSt_new S ty ho]
  unfold vHere
  simp only [Bool.or_eq_true, decide_eq_true_eq]
  constructor
  · rintro (h | h)
    · exact Or.inl h
    · rcases hW.2.2.2.2.1 o ho with h9 | ⟨q, h1, h2, -⟩
      · exact Or.inl h9.1
      · rw [h1] at h
        exact Or.inr ⟨q, h1, h2, vSd_keep (by omega) h _ (by omega)⟩
  · rintro (h | ⟨q, h1, h2, h3⟩)
    · exact Or.inl h
    · right
      rw [h1]
      show (vSt S ty o).2 (sF S q).toNat = q
      rcases vSt_sd (S := S) ty o (sF S q).toNat with h4 | ⟨o2, h4, h5, h6, h7, h8, h9, h10⟩
      · -- shown only later than o: not so, q stands ahead of o
        rcases vSt_sd (S := S) ty (sN S) (sF S q).toNat with g | ⟨o3, g1, g2, g3, g4, g5, g6, g7⟩
        · unfold vSd at h3; omega
        · have : o3 = q := by unfold vSd at h3; omega
          subst this
          have hd : vDef S ty (vSt S ty o3) o3 = true := by
            unfold vDef
            rw [g3, g4, g5, show (vSt S ty o3).2 (sF S o3).toNat = -1 from g7]; rfl
          have g9 : (vSt S ty (o3 + 1)).2 (sF S o3).toNat = o3 := by
            have e2 : (vSt S ty (o3 + 1)).2 = if vDef S ty (vSt S ty o3) o3 then updI (vSt S ty o3).2 (sF S o3).toNat o3 else (vSt S ty o3).2 := rfl
            rw [e2, if_pos hd]; unfold updI; rw [if_pos rfl]
          exact vSd_keep (by omega) g9 o (by omega)
      · have g := vSd_keep (by omega) h4 (sN S) (by omega)
        unfold vSd at h3
        rw [h3] at g
        rw [h4]; omega
theorem bLen_mem {S : zSn} {v : Nat → Nat} {l : List Int} {x : Int} (hx : x ∈ l) (h0 : x < 0) : chgN (sC S (-x - 1).toNat) (v (sF S (-x - 1).toNat).toNat) ≤ bLen S v l := by
  induction l with
  | nil => cases hx
  | cons y l ih =>
    show _ ≤ _ + bLen S v l
    rcases List.mem_cons.mp hx with h | h
    · subst h; rw [if_neg (by omega)]; omega
    · have := ih h; omega
theorem occ_in {S : zSn} (hW : wS S) {o : Nat} (ho : o < sN S) {p : Int} (hp : isPart S p) (h : sP S o = p) : (-(o : Int) - 1) ∈ sB S p := by
  have h1 : o ∈ occs (sB S p) := by
    rw [(hW.2.2.2.2.2.2.2.1 p hp).1]
    exact List.mem_filter.mpr ⟨List.mem_range.mpr ho, decide_eq_true h⟩
  obtain ⟨x, hx, he⟩ := List.mem_filterMap.mp h1
  by_cases e : x < 0
  · rw [if_pos e] at he
    have := Option.some.inj he
    rw [show -(o : Int) - 1 = x by omega]; exact hx
  · rw [if_neg e] at he; cases he
theorem vL_text {S : zSn} (hW : wS S) (ty : Nat → Bool) (ln : Nat → Nat) : ∀ (k o : Nat), o < k → o < sN S → vSh S ty o = true → chgN (sC S o) (vL S ty ln (sF S o).toNat) ≤ vTL S ty ln := by
  intro k
  induction k with
  | zero => intro o h; omega
  | succ k ih =>
    intro o hk ho hs
    have e : (-(-(o : Int) - 1) - 1).toNat = o := by omega
    rcases (vSh_iff hW ty ho).mp hs with h | ⟨q, h1, h2, h3⟩
    · have := bLen_mem (S := S) (v := vL S ty ln) (occ_in hW ho (Or.inl rfl) h) (by omega)
      rw [e] at this
      exact this
    · obtain ⟨o2, p1, p2, p3, p4, p5, p6, p7⟩ := vSd_part (S := S) (ty := ty) (f := (sF S q).toNat) (by omega)
      have : o2 = q := by omega
      subst this
      have g := hW.2.2.2.1 o2 p2
      have h5 := ih o2 (by omega) p2 p3
      have hc : sC S o2 = 0 := by
        rcases Decidable.em (sC S o2 = 0) with h | h
        · exact h
        · have := g.2.2.2.2.2.1 h; omega
      rw [hc, show chgN 0 (vL S ty ln (sF S o2).toNat) = vL S ty ln (sF S o2).toNat from rfl, vL_eq hW ty ln (show (sF S o2).toNat < 10 by omega), if_neg (by omega)] at h5
      have h6 := bLen_mem (S := S) (v := vL S ty ln) (occ_in hW ho p7 (by rw [h1, h3])) (by omega)
      rw [e] at h6
      omega
/-- so each field's value is no longer than the TEXT, or what is typed -/
theorem vL_le {S : zSn} (hW : wS S) (ty : Nat → Bool) (ln : Nat → Nat) {f : Nat} (hf : f < 10) : vL S ty ln f ≤ vTL S ty ln ∨ (vSd S ty f = -1 ∧ vL S ty ln f = if ty f then ln f else 0) := by
  by_cases e : vSd S ty f = -1
  · right; exact ⟨e, by rw [vL_eq hW ty ln hf, if_pos e]⟩
  · left
    obtain ⟨o, p1, p2, p3, p4, p5, p6, p7⟩ := vSd_part e
    have g := hW.2.2.2.1 o p2
    have hc : sC S o = 0 := by
      rcases Decidable.em (sC S o = 0) with h | h
      · exact h
      · have := g.2.2.2.2.2.1 h; omega
    have h5 := vL_text hW ty ln (o + 1) o (by omega) p2 p3
    rw [hc, p6, show chgN 0 (vL S ty ln f) = vL S ty ln f from rfl] at h5
    exact h5
