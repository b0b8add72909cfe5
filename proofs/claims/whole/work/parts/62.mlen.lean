/-! THE REFERENCE'S LENGTHS, which stop at 100000 -/
def mLN (S : zSn) (ty : Nat → Bool) (ln : Nat → Nat) : Nat → Nat → Nat
  | 0, _ => 0
  | m + 1, f => if vSd S ty f = -1 then (if ty f then ln f else 0) else min (bLen S (mLN S ty ln m) (sB S (vSd S ty f))) 100000
def mL (S : zSn) (ty : Nat → Bool) (ln : Nat → Nat) (f : Nat) : Nat := mLN S ty ln 11 f
def mTL (S : zSn) (ty : Nat → Bool) (ln : Nat → Nat) : Nat := min (bLen S (mL S ty ln) (sB S (-1))) 100000
theorem mLN_stable {S : zSn} (hW : wS S) (ty : Nat → Bool) (ln : Nat → Nat) : ∀ (r f m m' : Nat), f < 10 → vRk S f < r → vRk S f < m → vRk S f < m' → mLN S ty ln m f = mLN S ty ln m' f := by
  intro r
  induction r with
  | zero => intro f m m' _ h; omega
  | succ r ih =>
    intro f m m' hf h0 h1 h2
    cases m with
    | zero => omega
    | succ m =>
      cases m' with
      | zero => omega
      | succ m' =>
        show (if vSd S ty f = -1 then _ else _) = (if vSd S ty f = -1 then _ else _)
        by_cases e : vSd S ty f = -1
        · rw [if_pos e, if_pos e]
        · rw [if_neg e, if_neg e]
          congr 1
          refine bLen_congr (fun x hx hx0 => ?_)
          obtain ⟨g1, g2⟩ := sd_rank hW hf e hx hx0
          have := vRk_lt hW hf g1 g2
          exact ih _ _ _ g1 (by omega) (by omega) (by omega)
theorem mL_eq {S : zSn} (hW : wS S) (ty : Nat → Bool) (ln : Nat → Nat) {f : Nat} (hf : f < 10) : mL S ty ln f = if vSd S ty f = -1 then (if ty f then ln f else 0) else min (bLen S (mL S ty ln) (sB S (vSd S ty f))) 100000 := by
  show (if vSd S ty f = -1 then _ else _) = _
  by_cases e : vSd S ty f = -1
  · rw [if_pos e, if_pos e]
  · rw [if_neg e, if_neg e]
    congr 1
    refine bLen_congr (fun x hx hx0 => ?_)
    obtain ⟨g1, g2⟩ := sd_rank hW hf e hx hx0
    have := vRk_lt hW hf g1 g2
    have := vRk_le hW hf
    exact mLN_stable hW ty ln 11 _ 10 11 g1 (by omega) (by omega) (by omega)
theorem mL_le {S : zSn} (hW : wS S) (ty : Nat → Bool) {ln : Nat → Nat} (hl : ∀ f, f < 10 → ln f ≤ 400) {f : Nat} (hf : f < 10) : mL S ty ln f ≤ 100000 := by
  rw [mL_eq hW ty ln hf]
  have := hl f hf
  split
  · split <;> omega
  · omega
theorem mL_alt {S : zSn} (hW : wS S) (ty : Nat → Bool) {ln : Nat → Nat} (hl : ∀ f, f < 10 → ln f ≤ 400) : ∀ (r f : Nat), f < 10 → vRk S f < r → (mL S ty ln f = vL S ty ln f ∧ vL S ty ln f ≤ 100000) ∨ ∃ g, g < 10 ∧ mL S ty ln g = 100000 ∧ vSd S ty g ≠ -1 ∧ 100000 < vL S ty ln g := by
  intro r
  induction r with
  | zero => intro f _ h; omega
  | succ r ih =>
    intro f hf hr
    by_cases hall : ∀ g, g < 10 → mbit (sE S f) g = true → mL S ty ln g = vL S ty ln g
    · by_cases e : vSd S ty f = -1
      · left
        have := hl f hf
        rw [mL_eq hW ty ln hf, vL_eq hW ty ln hf, if_pos e, if_pos e]
        refine ⟨rfl, ?_⟩
        split <;> omega
      · have e1 : mL S ty ln f = min (vL S ty ln f) 100000 := by
          rw [mL_eq hW ty ln hf, vL_eq hW ty ln hf, if_neg e, if_neg e]
          congr 1
          refine bLen_congr (fun x hx hx0 => ?_)
          obtain ⟨g1, g2⟩ := sd_rank hW hf e hx hx0
          exact hall _ g1 g2
        by_cases h9 : vL S ty ln f ≤ 100000
        · left; omega
        · right; exact ⟨f, hf, by omega, e, by omega⟩
    · have ⟨g, hg⟩ := Classical.not_forall.mp hall
      have ⟨g1, hg⟩ := Classical.not_imp.mp hg
      have ⟨g2, g3⟩ := Classical.not_imp.mp hg
      have := vRk_lt hW hf g1 g2
      rcases ih g g1 (by omega) with h | h
      · exact absurd h.1 g3
      · exact Or.inr h
theorem mL_text {S : zSn} (hW : wS S) (ty : Nat → Bool) (ln : Nat → Nat) : ∀ (k o : Nat), o < k → o < sN S → vSh S ty o = true → min (chgN (sC S o) (mL S ty ln (sF S o).toNat)) 100000 ≤ mTL S ty ln := by
  intro k
  induction k with
  | zero => intro o h; omega
  | succ k ih =>
    intro o hk ho hs
    have e : (-(-(o : Int) - 1) - 1).toNat = o := by omega
    rcases (vSh_iff hW ty ho).mp hs with h | ⟨q, h1, h2, h3⟩
    · have := bLen_mem (S := S) (v := mL S ty ln) (occ_in hW ho (Or.inl rfl) h) (by omega)
      rw [e] at this
      unfold mTL
      omega
    · obtain ⟨o2, p1, p2, p3, p4, p5, p6, p7⟩ := vSd_part (S := S) (ty := ty) (f := (sF S q).toNat) (by omega)
      have : o2 = q := by omega
      subst this
      have g := hW.2.2.2.1 o2 p2
      have h5 := ih o2 (by omega) p2 p3
      have hc : sC S o2 = 0 := by
        rcases Decidable.em (sC S o2 = 0) with h | h
        · exact h
        · have := g.2.2.2.2.2.1 h; omega
      rw [hc, show chgN 0 (mL S ty ln (sF S o2).toNat) = mL S ty ln (sF S o2).toNat from rfl, mL_eq hW ty ln (show (sF S o2).toNat < 10 by omega), if_neg (by omega)] at h5
      have h6 := bLen_mem (S := S) (v := mL S ty ln) (occ_in hW ho p7 (by rw [h1, h3])) (by omega)
      rw [e] at h6
      omega
theorem mL_big {S : zSn} (hW : wS S) (ty : Nat → Bool) (ln : Nat → Nat) {g : Nat} (hg : g < 10) (h1 : mL S ty ln g = 100000) (h2 : vSd S ty g ≠ -1) (h3 : 100000 < vL S ty ln g) : mTL S ty ln = 100000 ∧ 100000 < vTL S ty ln := by
  obtain ⟨o, p1, p2, p3, p4, p5, p6, p7⟩ := vSd_part h2
  have gg := hW.2.2.2.1 o p2
  have hc : sC S o = 0 := by
    rcases Decidable.em (sC S o = 0) with h | h
    · exact h
    · have := gg.2.2.2.2.2.1 h; omega
  have h5 := mL_text hW ty ln (o + 1) o (by omega) p2 p3
  rw [hc, p6, show chgN 0 (mL S ty ln g) = mL S ty ln g from rfl, h1] at h5
  refine ⟨?_, ?_⟩
  · have : mTL S ty ln ≤ 100000 := by unfold mTL; omega
    omega
  · rcases vL_le hW ty ln hg with h | h
    · omega
    · exact absurd h.1 h2
/-- the reference's TEXT is as long as the TEXT, up to 100000 -/
theorem mTL_eq {S : zSn} (hW : wS S) (ty : Nat → Bool) {ln : Nat → Nat} (hl : ∀ f, f < 10 → ln f ≤ 400) : mTL S ty ln = min (vTL S ty ln) 100000 := by
  by_cases hx : ∃ g, g < 10 ∧ mL S ty ln g = 100000 ∧ vSd S ty g ≠ -1 ∧ 100000 < vL S ty ln g
  · obtain ⟨g, g0, g1, g2, g3⟩ := hx
    have := mL_big hW ty ln g0 g1 g2 g3
    omega
  · unfold mTL vTL
    congr 1
    refine bLen_congr (fun x hx2 hx0 => ?_)
    have g1 := (body_occ hW (Or.inl rfl) hx2 hx0).1
    have g2 := hW.2.2.2.1 _ g1
    rcases mL_alt hW ty hl 11 (sF S (-x - 1).toNat).toNat (by omega) (by have := vRk_le hW (f := (sF S (-x - 1).toNat).toNat) (by omega); omega) with h | h
    · exact h.1
    · exact absurd h hx
theorem mL_same {S : zSn} (hW : wS S) (ty : Nat → Bool) {ln : Nat → Nat} (hl : ∀ f, f < 10 → ln f ≤ 400) (hT : vTL S ty ln ≤ 100000) {f : Nat} (hf : f < 10) : mL S ty ln f = vL S ty ln f := by
  rcases mL_alt hW ty hl 11 f hf (by have := vRk_le hW hf; omega) with h | ⟨g, g0, g1, g2, g3⟩
  · exact h.1
  · have := mL_big hW ty ln g0 g1 g2 g3; omega
theorem m_changed (c : Int) {n : Nat} (hn : n ≤ 100000) : zok (f7_changed c (n : Int)) (fun r => r = chgN c n) := by
  unfold f7_changed
  refine zok_if (fun h => zok_if (fun h2 => zok_some ?_) (fun h2 => zok_some ?_)) (fun h => zok_if (fun h2 => ?_) (fun h2 => zok_some ?_))
  · unfold chgN; rw [if_pos h]; omega
  · unfold chgN; rw [if_pos h]; omega
  · have e : chgN c n = dgt n := by unfold chgN; rw [if_neg h, if_pos h2]
    rw [e]
    have hd := dgt_le n
    have h20 : n < 10 ^ (20 + 1) := Nat.lt_of_le_of_lt hn (by decide)
    refine zok_x2 (fun (x2 x3 : Int) => ∃ j l d : Nat, x2 = d ∧ x3 = l ∧ l ≤ 100000 ∧ l < 10 ^ (j + 1) ∧ d + dgF j l = 1 + dgt n) (fun _ x3 => x3.toNat / 10) (fun kk x2 x3 hx ih => ?_) zFu 1 _ ⟨20, n, 1, rfl, rfl, hn, h20, rfl⟩ (by show (n : Int).toNat / 10 < 100000; omega)
    obtain ⟨j, l, d, rfl, rfl, g1, g2, g3⟩ := hx
    unfold f7_changed_26
    refine zok_if (fun h3 => zok_some ?_) (fun h3 => ?_)
    · have e1 : dgF j l = 1 := by
        cases j with
        | zero => rfl
        | succ j => show (if l < 10 then 1 else _) = 1; rw [if_pos (by omega)]
      omega
    · cases j with
      | zero => simp at g2; omega
      | succ j =>
        have e1 : dgF (j + 1) l = dgF j (l / 10) + 1 := by show (if l < 10 then 1 else _) = _; rw [if_neg (by omega)]
        have e2 := dgF_le j (l / 10)
        refine zok_gl ⟨by omega, by omega⟩ (zok_lt ?_)
        rw [zdiv_nn (by omega) (by omega) (by decide) (by decide)]
        refine ih _ _ ⟨j, l / 10, d + 1, by omega, by omega, by omega, ?_, by omega⟩ (by show ((l : Int) / 10).toNat / 10 < (l : Int).toNat / 10; omega)
        exact Nat.div_lt_of_lt_mul (by rw [Nat.mul_comm, ← Nat.pow_succ]; exact g2)
  · unfold chgN; rw [if_neg h, if_neg h2]
theorem m_sum {a c : Nat} (ha : a ≤ 100000) (hc : c ≤ 100000) : zok (f7_sum (a : Int) (c : Int)) (fun r => r = ((min (a + c) 100000 : Nat) : Int)) := by
  unfold f7_sum
  refine zok_gl ⟨by omega, by omega⟩ (zok_if (fun h => zok_gl ⟨by omega, by omega⟩ (zok_some (by omega))) (fun h => zok_some (by omega)))
theorem capadd {a c d : Nat} (h : d = a + c) : min (min a 100000 + c) 100000 = min d 100000 := by omega
section mLen
variable {μ0 m : zM} {b k : Nat} {S : zSn} {ty : Nat → Bool} {sa : Int} {ln : Nat → Nat}
def mJ (S : zSn) (ty : Nat → Bool) (ln : Nat → Nat) (μ0 m : zM) : Prop := zSm (fun c => c ≠ 332) μ0 m ∧ ∀ f, f < 10 → zI m 332 f = -1 ∨ zI m 332 f = mL S ty ln f
def mP (S : zSn) (ty : Nat → Bool) (ln : Nat → Nat) (μ0 : zM) (v : Nat) : Int × zM → Prop := fun r => r.1 = (v : Int) ∧ mJ S ty ln μ0 r.2
theorem mJ.cx (h : mJ S ty ln μ0 m) (hC : mCx μ0 b k S ty sa) : mCx m b k S ty sa := hC.keep (h.1.mono (fun c hc => by omega)) (h.1 292 (by decide) 8).2.2 (h.1 292 (by decide) 21).1 (h.1 292 (by decide) 22).1
theorem m_vl (hC : mCx μ0 b k S ty sa) (hV : mShown S ty μ0) (hL : ∀ f, f < 10 → ty f = true → zI μ0 293 (sa.toNat + 3 + f) = ln f) {n : Nat}
    (ihB : ∀ p, isPart S p → 1 ≤ n → (∀ o, o < sN S → sP S o = p → 3 * vRk S (sF S o).toNat + 4 ≤ n) → ∀ m, mJ S ty ln μ0 m → zok (f7_bodyLength n (mFirst μ0 b k p) (mEnd μ0 b k p) m) (mP S ty ln μ0 (min (bLen S (mL S ty ln) (sB S p)) 100000)))
    {f : Nat} (hf : f < 10) (hn : 3 * vRk S f + 2 ≤ n + 1) (hJ : mJ S ty ln μ0 m) : zok (f7_valueLength (n + 1) (f : Int) m) (mP S ty ln μ0 (mL S ty ln f)) := by
  have hC' := hJ.cx hC
  obtain ⟨c1, c2, c3, c4, c5, c6, c7, c8⟩ := hC'
  obtain ⟨b1, b2, b3, b4, b5, b6, b7, b8, b9, b10, b11, b12, b13⟩ := okB_f c1
  have hW := c8
  have r0 : ∀ c, c ≠ 332 → ∀ i, zI m c i = zI μ0 c i := fun c hc i => (hJ.1 c hc i).1
  -- the end: the length is laid, and told
  have fin : ∀ (s0 : Int) (m1 : zM), mJ S ty ln μ0 m1 → s0 = (mL S ty ln f : Int) → zok (f7_valueLength_87 (fGA n).1 (fGA n).2.1 (fGA n).2.2 (f : Int) s0 (f : Int) m1) (mP S ty ln μ0 (mL S ty ln f)) := by
    intro s0 m1 h1 hs
    unfold f7_valueLength_87 f7_valueLength_88
    refine zok_gd ⟨by omega, by rw [zl_m2.2.1]; omega⟩ (zok_lt (zok_gd ⟨by omega, by rw [zl_m2.2.1]; omega⟩ (zok_some ⟨?_, ?_, fun g hg => ?_⟩)))
    · have hq : zI (zsI m1 332 (zx (f : Int)) s0) 332 (zx (f : Int)) = (mL S ty ln f : Int) := (zI_eq rfl rfl).trans hs
      exact hq
    · exact h1.1.sI (fun q => q rfl)
    · show zI (zsI m1 332 _ s0) 332 g = -1 ∨ _
      by_cases e : g = f
      · right; rw [zI_eq rfl (by rw [zx_nat]; exact e), e]; exact hs
      · rw [zI_ni (by rw [zx_nat]; exact e)]; exact h1.2 g hg
  show zok (f7_valueLength_o (fGA n).1 (fGA n).2.1 (fGA n).2.2 (f : Int) m) _
  unfold f7_valueLength_o
  refine zok_gd ⟨by omega, by rw [zl_m2.2.1]; omega⟩ (zok_if (fun h9 => ?_) (fun h9 => ?_))
  · refine zok_gd ⟨by omega, by rw [zl_m2.1]; omega⟩ (zok_lt (zok_co (m_isTyped (hJ.cx hC) (f : Int) (by omega) (by omega)) (fun r hr => ?_)))
    rw [show ((f : Int)).toNat = f from rfl] at hr
    subst hr
    rw [zx_nat, r0 331 (by decide), hV.2.1 f hf]
    cases hT : ty f with
    | false =>
      refine zok_t rfl (zok_if (fun hd => ?_) (fun hd => ?_))
      · refine fin 0 m hJ ?_
        rw [mL_eq hW ty ln hf, if_pos hd, hT]; rfl
      · obtain ⟨o, p1, p2, p3, p4, p5, p6, p7⟩ := vSd_part hd
        have hn60 := hW.1
        have hm := c7.2.2.2.2.2.2 _ p7
        rw [p1] at hm ⊢
        refine zok_co (m_of (hJ.cx hC) (show o < 60 by omega)) (fun r hr => ?_)
        subst hr
        have eF : zI m (b + 10) (60 * k + o) + 1 = mFirst m b k (o : Int) := by unfold mFirst; rw [if_neg (by omega)]; rfl
        have eE : zI m (b + 11) (60 * k + o) = mEnd m b k (o : Int) := by unfold mEnd; rw [if_neg (by omega)]; rfl
        have eF0 : mFirst m b k (o : Int) = mFirst μ0 b k (o : Int) := by unfold mFirst; rw [r0 _ (by omega), r0 _ (by omega)]
        have eE0 : mEnd m b k (o : Int) = mEnd μ0 b k (o : Int) := by unfold mEnd; rw [r0 _ (by omega), r0 _ (by omega)]
        rw [c3, b10, b11, zx_nat, eF]
        refine zok_gd ⟨by omega, by omega⟩ (zok_gl ⟨by omega, by omega⟩ (zok_co (m_of (hJ.cx hC) (show o < 60 by omega)) (fun r hr => ?_)))
        subst hr
        rw [zx_nat, eE, eF0, eE0]
        refine zok_gd ⟨by omega, by omega⟩ (zok_cl (ihB (o : Int) (by rw [← p1]; exact p7) (by omega) (fun o2 ho2 hp2 => ?_) m hJ) (fun x m1 hx => ?_))
        · have g3 := hW.2.2.2.1 o2 ho2
          have h9 := hW.2.2.2.2.2.2.1 o2 o ho2 hp2
          rw [p6] at h9
          have := vRk_lt hW hf (show (sF S o2).toNat < 10 by omega) h9
          omega
        · have hx1 : x = ((min (bLen S (mL S ty ln) (sB S (o : Int))) 100000 : Nat) : Int) := hx.1
          refine fin x m1 hx.2 ?_
          rw [hx1, mL_eq hW ty ln hf, if_neg hd, p1]
    | true =>
      have hd : vSd S ty f = -1 := by
        rcases Decidable.em (vSd S ty f = -1) with h | h
        · exact h
        · obtain ⟨o, p1, p2, p3, p4, p5, p6, p7⟩ := vSd_part h
          rw [hT] at p5; cases p5
      rw [c5]
      rcases c6 with ⟨q1, q2⟩ | ⟨q1, q2, q3⟩
      · rw [q2 f hf] at hT; cases hT
      · refine zok_f (by decide) (zok_gl ⟨by omega, by omega⟩ (zok_gl ⟨by omega, by omega⟩ (zok_gd ⟨by omega, by rw [zl_m.1]; omega⟩ (fin _ m hJ ?_))))
        rw [show zx (sa + 3 + (f : Int)) = sa.toNat + 3 + f from by show (sa + 3 + (f : Int)).toNat = _; omega, r0 293 (by decide), hL f hf hT, mL_eq hW ty ln hf, if_pos hd, hT]
        rfl
  · unfold f7_valueLength_88
    refine zok_gd ⟨by omega, by rw [zl_m2.2.1]; omega⟩ (zok_some ⟨?_, hJ⟩)
    rcases hJ.2 f hf with h | h
    · exact absurd (by rw [zx_nat]; exact h) h9
    · show zI m 332 (zx f) = _; rw [zx_nat]; exact h
theorem m_la (hC : mCx μ0 b k S ty sa) (hl : ∀ f, f < 10 → ln f ≤ 400) {n : Nat} (ihV : ∀ f : Nat, f < 10 → 3 * vRk S f + 2 ≤ n → ∀ m, mJ S ty ln μ0 m → zok (f7_valueLength n (f : Int) m) (mP S ty ln μ0 (mL S ty ln f)))
    {o : Nat} (ho : o < sN S) (hn : 3 * vRk S (sF S o).toNat + 3 ≤ n + 1) (hJ : mJ S ty ln μ0 m) : zok (f7_lengthAt (n + 1) (o : Int) m) (mP S ty ln μ0 (chgN (sC S o) (mL S ty ln (sF S o).toNat))) := by
  have hC' := hJ.cx hC
  obtain ⟨c1, c2, c3, c4, c5, c6, c7, c8⟩ := hC'
  obtain ⟨b1, b2, b3, b4, b5, b6, b7, b8, b9, b10, b11, b12, b13⟩ := okB_f c1
  have hn60 := c8.1
  have hx := c7.2.2.2.1 o ho
  obtain ⟨f1, f2, -⟩ := c8.2.2.2.1 o ho
  show zok (f7_lengthAt_o (fGA n).1 (fGA n).2.1 (fGA n).2.2 (o : Int) m) _
  unfold f7_lengthAt_o
  refine zok_co (m_of (hJ.cx hC) (show o < 60 by omega)) (fun r hr => ?_)
  subst hr
  rw [c3, b7, b6, zx_nat, hx.2.1]
  refine zok_gd ⟨by omega, by omega⟩ (zok_co (m_of (hJ.cx hC) (show o < 60 by omega)) (fun r hr => ?_))
  subst hr
  rw [zx_nat, hx.1]
  have hv := ihV (sF S o).toNat (by omega) (by omega) m hJ
  rw [show (((sF S o).toNat : Nat) : Int) = sF S o by omega] at hv
  refine zok_gd ⟨by omega, by omega⟩ (zok_cl hv (fun x m1 hx1 => ?_))
  have hx2 : x = (mL S ty ln (sF S o).toNat : Int) := hx1.1
  rw [hx2]
  exact zok_co (m_changed (sC S o) (mL_le c8 ty hl (by omega))) (fun r hr => zok_some ⟨hr, hx1.2⟩)
theorem m_bl (hC : mCx μ0 b k S ty sa) (hl : ∀ f, f < 10 → ln f ≤ 400) {n : Nat} (ihL : ∀ o : Nat, o < sN S → 3 * vRk S (sF S o).toNat + 3 ≤ n → ∀ m, mJ S ty ln μ0 m → zok (f7_lengthAt n (o : Int) m) (mP S ty ln μ0 (chgN (sC S o) (mL S ty ln (sF S o).toNat))))
    {p : Int} (hp : isPart S p) (hn : ∀ o, o < sN S → sP S o = p → 3 * vRk S (sF S o).toNat + 4 ≤ n + 1) (hJ : mJ S ty ln μ0 m) : zok (f7_bodyLength (n + 1) (mFirst μ0 b k p) (mEnd μ0 b k p) m) (mP S ty ln μ0 (min (bLen S (mL S ty ln) (sB S p)) 100000)) := by
  have hm0 := hC.2.2.2.2.2.2.1.2.2.2.2.2.2 p hp
  have hW := hC.2.2.2.2.2.2.2
  have hn60 := hW.1
  show zok (f7_bodyLength_o (fGA n).1 (fGA n).2.1 (fGA n).2.2 (mFirst μ0 b k p) (mEnd μ0 b k p) m) _
  unfold f7_bodyLength_o
  refine zok_x3 (fun x3 x4 m => mJ S ty ln μ0 m ∧ ∃ pre suf : List Int, sB S p = pre ++ suf ∧ pWk μ0 b k x4 (mEnd μ0 b k p) suf ∧ x3 = ((min (bLen S (mL S ty ln) pre) 100000 : Nat) : Int) ∧ 0 ≤ x4) (fun _ x4 _ => (mEnd μ0 b k p - x4).toNat) (fun kk x3 x4 m hx ih => ?_) zFu 0 (mFirst μ0 b k p) m ⟨hJ, [], sB S p, rfl, hm0.2.2.2, rfl, hm0.1⟩ (by show (mEnd μ0 b k p - mFirst μ0 b k p).toNat < 100000; omega)
  obtain ⟨hJ, pre, suf, e1, e2, rfl, e4⟩ := hx
  have hC' := hJ.cx hC
  obtain ⟨c1, c2, c3, c4, c5, c6, c7, c8⟩ := hC'
  obtain ⟨b1, b2, b3, b4, b5, b6, b7, b8, b9, b10, b11, b12, b13⟩ := okB_f c1
  have r0 : ∀ c, c ≠ 332 → ∀ i, zI m c i = zI μ0 c i := fun c hc i => (hJ.1 c hc i).1
  unfold f7_bodyLength_5
  cases suf with
  | nil =>
    have e5 : x4 = mEnd μ0 b k p := e2
    refine zok_t (by omega) (zok_some ⟨?_, hJ⟩)
    rw [e1, List.append_nil]
  | cons x l =>
    obtain ⟨g1, g2, g3⟩ := e2
    have hx := hW.2.2.2.2.2.2.2.1 p hp
    have hxm : x ∈ sB S p := by rw [e1]; exact List.mem_append_right _ List.mem_cons_self
    have hxr := hx.2.1 x hxm
    have e6 : sB S p = (pre ++ [x]) ++ l := by rw [e1]; simp
    refine zok_f (by omega) ?_
    rw [c3, b4]
    refine zok_gd ⟨by omega, by omega⟩ (zok_lt ?_)
    rw [show zx x4 = x4.toNat from rfl, r0 (b + 4) (by omega)]
    rcases g3 with ⟨q1, q2, q3⟩ | ⟨q1, q2, q3, q4⟩
    · rw [q2]
      refine zok_t (by omega) (zok_co (m_sum (a := min (bLen S (mL S ty ln) pre) 100000) (c := 1) (by omega) (by omega)) (fun r hr => zok_gl ⟨by omega, by omega⟩ ?_))
      subst hr
      refine ih _ _ _ ⟨hJ, pre ++ [x], l, e6, q3, ?_, by omega⟩ (by show (mEnd μ0 b k p - (x4 + 1)).toNat < (mEnd μ0 b k p - x4).toNat; omega)
      have e7 : bLen S (mL S ty ln) [x] = 1 := by show (if 0 ≤ x then 1 else _) + 0 = 1; rw [if_pos q1]
      exact congrArg (fun z : Nat => (z : Int)) (capadd (by rw [bLen_app, e7]))
    · obtain ⟨o1, o2⟩ := body_occ hW hp hxm q1
      have hf := hW.2.2.2.1 _ o1
      rw [q2]
      refine zok_f (by omega) (zok_gl ⟨by omega, by omega⟩ ?_)
      rw [show (1000 + (-x - 1) - 1000 : Int) = (((-x - 1).toNat : Nat) : Int) by omega]
      have hle : chgN (sC S (-x - 1).toNat) (mL S ty ln (sF S (-x - 1).toNat).toNat) ≤ 100000 := by
        have h1 := chgN_le (sC S (-x - 1).toNat) (mL S ty ln (sF S (-x - 1).toNat).toNat)
        have h2 := mL_le hW ty hl (show (sF S (-x - 1).toNat).toNat < 10 by omega)
        omega
      refine zok_cl (ihL _ o1 (by have := hn _ o1 o2; omega) m hJ) (fun y m1 hy => ?_)
      have hy1 : y = ((chgN (sC S (-x - 1).toNat) (mL S ty ln (sF S (-x - 1).toNat).toNat) : Nat) : Int) := hy.1
      rw [hy1]
      refine zok_co (m_sum (by omega) hle) (fun r hr => ?_)
      subst hr
      have hC1 := hy.2.cx hC
      refine zok_co (m_of hC1 (show (-x - 1).toNat < 60 by omega)) (fun r hr => ?_)
      subst hr
      have r1 : ∀ i, zI m1 (b + 11) i = zI μ0 (b + 11) i := fun i => (hy.2.1 (b + 11) (by omega) i).1
      rw [hC1.2.2.1, b11, zx_nat, r1]
      refine zok_gd ⟨by omega, by omega⟩ ?_
      have hE : zI μ0 (b + 11) (60 * k + (-x - 1).toNat) + 1 ≤ mEnd μ0 b k p := by
        cases l with
        | nil => exact Int.le_of_eq q4
        | cons y l => exact Int.le_of_lt q4.2.1
      refine zok_gl ⟨by omega, by omega⟩ (ih _ _ _ ⟨hy.2, pre ++ [x], l, e6, q4, ?_, by omega⟩ (by show (mEnd μ0 b k p - _).toNat < (mEnd μ0 b k p - x4).toNat; omega))
      have e7 : bLen S (mL S ty ln) [x] = chgN (sC S (-x - 1).toNat) (mL S ty ln (sF S (-x - 1).toNat).toNat) := by show (if 0 ≤ x then 1 else _) + 0 = _; rw [if_neg (by omega)]; rfl
      exact congrArg (fun z : Nat => (z : Int)) (capadd (by rw [bLen_app, e7]))
theorem m_GA (hC : mCx μ0 b k S ty sa) (hV : mShown S ty μ0) (hL : ∀ f, f < 10 → ty f = true → zI μ0 293 (sa.toNat + 3 + f) = ln f) (hl : ∀ f, f < 10 → ln f ≤ 400) : ∀ n : Nat,
    (∀ f : Nat, f < 10 → 3 * vRk S f + 2 ≤ n → ∀ m, mJ S ty ln μ0 m → zok (f7_valueLength n (f : Int) m) (mP S ty ln μ0 (mL S ty ln f))) ∧
    (∀ o : Nat, o < sN S → 3 * vRk S (sF S o).toNat + 3 ≤ n → ∀ m, mJ S ty ln μ0 m → zok (f7_lengthAt n (o : Int) m) (mP S ty ln μ0 (chgN (sC S o) (mL S ty ln (sF S o).toNat)))) ∧
    (∀ p, isPart S p → 1 ≤ n → (∀ o, o < sN S → sP S o = p → 3 * vRk S (sF S o).toNat + 4 ≤ n) → ∀ m, mJ S ty ln μ0 m → zok (f7_bodyLength n (mFirst μ0 b k p) (mEnd μ0 b k p) m) (mP S ty ln μ0 (min (bLen S (mL S ty ln) (sB S p)) 100000))) := by
  intro n
  induction n with
  | zero => exact ⟨fun f _ h => by omega, fun o _ h => by omega, fun p _ h => by omega⟩
  | succ n ih =>
    exact ⟨fun f hf hn m hJ => m_vl hC hV hL ih.2.2 hf hn hJ, fun o ho hn m hJ => m_la hC hl ih.1 ho hn hJ, fun p hp _ hn m hJ => m_bl hC hl ih.2.1 hp hn hJ⟩
theorem m_valueLength (hC : mCx μ0 b k S ty sa) (hV : mShown S ty μ0) (hL : ∀ f, f < 10 → ty f = true → zI μ0 293 (sa.toNat + 3 + f) = ln f) (hl : ∀ f, f < 10 → ln f ≤ 400) {f : Nat} (hf : f < 10) (hJ : mJ S ty ln μ0 m) : zok (f7_valueLength 40 (f : Int) m) (mP S ty ln μ0 (mL S ty ln f)) := by
  have := vRk_le hC.2.2.2.2.2.2.2 hf
  exact (m_GA hC hV hL hl 40).1 f hf (by omega) m hJ
theorem m_lengthAt (hC : mCx μ0 b k S ty sa) (hV : mShown S ty μ0) (hL : ∀ f, f < 10 → ty f = true → zI μ0 293 (sa.toNat + 3 + f) = ln f) (hl : ∀ f, f < 10 → ln f ≤ 400) {o : Nat} (ho : o < sN S) (hJ : mJ S ty ln μ0 m) : zok (f7_lengthAt 40 (o : Int) m) (mP S ty ln μ0 (chgN (sC S o) (mL S ty ln (sF S o).toNat))) := by
  have hW := hC.2.2.2.2.2.2.2
  have hF := hW.2.2.2.1 o ho
  have := vRk_le hW (show (sF S o).toNat < 10 by omega)
  exact (m_GA hC hV hL hl 40).2.1 o ho (by omega) m hJ
theorem m_textLength (hC : mCx μ0 b k S ty sa) (hV : mShown S ty μ0) (hL : ∀ f, f < 10 → ty f = true → zI μ0 293 (sa.toNat + 3 + f) = ln f) (hl : ∀ f, f < 10 → ln f ≤ 400) (hJ : mJ S ty ln μ0 m) : zok (f7_textLength m) (mP S ty ln μ0 (mTL S ty ln)) := by
  have hC' := hJ.cx hC
  obtain ⟨c1, c2, c3, c4, c5, c6, c7, c8⟩ := hC'
  obtain ⟨b1, b2, b3, b4, b5, b6, b7, b8, b9, b10, b11, b12, b13⟩ := okB_f c1
  have r0 : ∀ c, c ≠ 332 → ∀ i, zI m c i = zI μ0 c i := fun c hc i => (hJ.1 c hc i).1
  unfold f7_textLength
  rw [c4, c3, b3]
  refine zok_gd ⟨by omega, by omega⟩ (zok_gl ⟨by omega, by omega⟩ (zok_gd ⟨by omega, by omega⟩ ?_))
  rw [zx_nat, show zx ((k : Int) + 1) = k + 1 from by show ((k : Int) + 1).toNat = _; omega, r0 (b + 3) (by omega), r0 (b + 3) (by omega)]
  have h := (m_GA hC hV hL hl 40).2.2 (-1) (Or.inl rfl) (by omega) (fun o ho _ => by
    have hF := c8.2.2.2.1 o ho
    have := vRk_le c8 (show (sF S o).toNat < 10 by omega)
    omega) m hJ
  rw [show mFirst μ0 b k (-1) = zI μ0 (b + 3) k from if_pos rfl, show mEnd μ0 b k (-1) = zI μ0 (b + 3) (k + 1) from if_pos rfl] at h
  exact zok_cl h (fun x m1 hx => zok_some hx)
end mLen
