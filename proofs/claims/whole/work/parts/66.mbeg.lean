/-! THE REFERENCE: where an occurrence begins -/
theorem tw_pre {x : Int} {l : List Int} : ∀ pre : List Int, x ∉ pre → (pre ++ x :: l).takeWhile (fun y => decide (y ≠ x)) = pre := by
  intro pre
  induction pre with
  | nil => intro _; rw [List.nil_append, List.takeWhile_cons, if_neg (by simp)]
  | cons y pre ih =>
    intro h
    rw [List.cons_append, List.takeWhile_cons, if_pos (by simpa using fun e => h (by rw [e]; exact List.mem_cons_self)), ih (fun q => h (List.mem_cons_of_mem _ q))]
theorem ahead_pre {S : zSn} (hW : wS S) {p : Int} (hp : isPart S p) {pre l : List Int} {x : Int} (h : sB S p = pre ++ x :: l) (h0 : x < 0) : sAhead S (-x - 1).toNat = pre := by
  have hx : x ∈ sB S p := by rw [h]; exact List.mem_append_right _ List.mem_cons_self
  have ho := body_occ hW hp hx h0
  unfold sAhead
  rw [ho.2, h, show -(((-x - 1).toNat : Nat) : Int) - 1 = x by omega]
  refine tw_pre pre (fun hm => ?_)
  have h1 : (occs (sB S p)).Nodup := by
    rw [(hW.2.2.2.2.2.2.2.1 p hp).1]
    exact List.Nodup.sublist List.filter_sublist List.nodup_range
  have e : occs (sB S p) = occs pre ++ (-x - 1).toNat :: occs l := by
    rw [h]
    unfold occs
    rw [List.filterMap_append, List.filterMap_cons, if_pos h0]
  rw [e] at h1
  exact (List.nodup_append.mp h1).2.2 _ (occs_mem hm h0) _ List.mem_cons_self rfl
theorem vStF_st {S : zSn} (hW : wS S) (v : Nat → Nat) : ∀ m m' o, o < sN S → (sG S o).toNat < m → (sG S o).toNat < m' → vStF S v m o = vStF S v m' o := by
  intro m
  induction m with
  | zero => intro m' o _ h; omega
  | succ m ih =>
    intro m' o ho h1 h2
    cases m' with
    | zero => omega
    | succ m' =>
      show _ + (if sP S o = -1 then 0 else vStF S v m (sP S o).toNat) = _ + (if sP S o = -1 then 0 else vStF S v m' (sP S o).toNat)
      rcases hW.2.2.2.2.1 o ho with h | ⟨q, q1, q2, q3, q4⟩
      · rw [if_pos h.1, if_pos h.1]
      · have hg := hW.2.2.2.1 q (by omega)
        rw [if_neg (by omega), if_neg (by omega), show (sP S o).toNat = q by omega, ih m' q (by omega) (by omega) (by omega)]
def pst (S : zSn) (v : Nat → Nat) (p : Int) : Nat := if p = -1 then 0 else vStF S v 5 p.toNat
def dpt (S : zSn) (p : Int) : Nat := if p = -1 then 0 else (sG S p.toNat).toNat + 1
theorem vSt5 {S : zSn} (hW : wS S) (v : Nat → Nat) {o : Nat} (ho : o < sN S) : vStF S v 5 o = bLen S v (sAhead S o) + pst S v (sP S o) ∧ (sG S o).toNat = dpt S (sP S o) := by
  have e : vStF S v 5 o = bLen S v (sAhead S o) + if sP S o = -1 then 0 else vStF S v 4 (sP S o).toNat := rfl
  unfold pst dpt
  rw [e]
  rcases hW.2.2.2.2.1 o ho with h | ⟨q, q1, q2, q3, q4⟩
  · rw [if_pos h.1, if_pos h.1, if_pos h.1]; exact ⟨rfl, by omega⟩
  · have hg := hW.2.2.2.1 q (by omega)
    have hg3 := hg.2.2.2.2.2.2.2.2 q3
    have hq : (sP S o).toNat = q := by omega
    rw [if_neg (by omega), if_neg (by omega), if_neg (by omega), hq, vStF_st hW v 4 5 q (by omega) (by omega) (by omega)]
    exact ⟨rfl, by omega⟩
/-- an occurrence stands in a part, or in a shown default of it, and so on -/
def bel (S : zSn) (ty : Nat → Bool) : Nat → Int → Nat → Prop
  | 0, _, _ => False
  | n + 1, p, o => sP S o = p ∨ ∃ x : Nat, x < sN S ∧ sP S x = p ∧ vSd S ty (sF S x).toNat = x ∧ bel S ty n x o
theorem bel_mono (S : zSn) (ty : Nat → Bool) : ∀ n p o, bel S ty n p o → bel S ty (n + 1) p o := by
  intro n
  induction n with
  | zero => intro p o h; exact h.elim
  | succ n ih =>
    intro p o h
    rcases h with h | ⟨x, h1, h2, h3, h4⟩
    · exact Or.inl h
    · exact Or.inr ⟨x, h1, h2, h3, ih _ _ h4⟩
theorem bel_le (S : zSn) (ty : Nat → Bool) {n m : Nat} (h : n ≤ m) (p : Int) (o : Nat) (hb : bel S ty n p o) : bel S ty m p o := by
  induction m with
  | zero => rw [show n = 0 by omega] at hb; exact hb
  | succ m ih =>
    by_cases e : n = m + 1
    · rw [← e]; exact hb
    · exact bel_mono S ty m p o (ih (by omega))
theorem bel_down (S : zSn) (ty : Nat → Bool) {x o : Nat} (hx : x < sN S) (hd : vSd S ty (sF S x).toNat = x) (ho : sP S o = x) : ∀ n p, bel S ty n p x → bel S ty (n + 1) p o := by
  intro n
  induction n with
  | zero => intro p h; exact h.elim
  | succ n ih =>
    intro p h
    rcases h with h | ⟨y, h1, h2, h3, h4⟩
    · exact Or.inr ⟨x, hx, h, hd, Or.inl ho⟩
    · exact Or.inr ⟨y, h1, h2, h3, ih _ h4⟩
theorem shown_bel {S : zSn} (hW : wS S) (ty : Nat → Bool) : ∀ k o, o < k → o < sN S → vSh S ty o = true → bel S ty ((sG S o).toNat + 1) (-1) o := by
  intro k
  induction k with
  | zero => intro o h; omega
  | succ k ih =>
    intro o hk ho hs
    rcases (vSh_iff hW ty ho).mp hs with h | ⟨q, h1, h2, h3⟩
    · exact Or.inl h
    · obtain ⟨o2, p1, p2, p3, p4, p5, p6, p7⟩ := vSd_part (S := S) (ty := ty) (f := (sF S q).toNat) (by omega)
      have : o2 = q := by omega
      subst this
      have h9 := ih o2 (by omega) p2 p3
      have hg := hW.2.2.2.1 o2 p2
      rcases hW.2.2.2.2.1 o ho with h | ⟨q, q1, q2, q3, q4⟩
      · omega
      · have : q = o2 := by omega
        subst this
        have := bel_down S ty p2 h3 h1 _ _ h9
        rw [show (sG S o).toNat + 1 = (sG S q).toNat + 1 + 1 by omega]
        exact this
section mBeg
variable {μ0 m : zM} {b k : Nat} {S : zSn} {ty : Nat → Bool} {sa : Int} {ln : Nat → Nat}
def mBJ (S : zSn) (ty : Nat → Bool) (ln : Nat → Nat) (μ0 m : zM) : Prop := zSm (fun c => c ≠ 332 ∧ c ≠ 337) μ0 m ∧ ∀ f, f < 10 → zI m 332 f = -1 ∨ zI m 332 f = mL S ty ln f
theorem mBJ.cx (h : mBJ S ty ln μ0 m) (hC : mCx μ0 b k S ty sa) : mCx m b k S ty sa := hC.keep (h.1.mono (fun c hc => by omega)) (h.1 292 (by decide) 8).2.2 (h.1 292 (by decide) 21).1 (h.1 292 (by decide) 22).1
theorem mBJ.sh (h : mBJ S ty ln μ0 m) (hV : mShown S ty μ0) : mShown S ty m := by
  obtain ⟨a1, a2, a3, a4⟩ := hV
  refine ⟨fun o ho => ?_, fun f hf => ?_, ?_, fun i hi => ?_⟩
  · rw [(h.1 329 (by decide) o).1, (h.1 330 (by decide) o).1]; exact a1 o ho
  · rw [(h.1 331 (by decide) f).1]; exact a2 f hf
  · rw [(h.1 292 (by decide) 27).1]; exact a3
  · rw [(h.1 292 (by decide) 27).1]; exact a4 i hi
/-- where the occurrences stand: as before, or shown and laid -/
def mSt (S : zSn) (ty : Nat → Bool) (v : Nat → Nat) (m0 m : zM) : Prop := ∀ o, zI m 337 o = zI m0 337 o ∨ (o < sN S ∧ vSh S ty o = true ∧ zI m 337 o = (vStF S v 5 o : Nat))
theorem mSt.tr {v : Nat → Nat} {m0 m1 m2 : zM} (h : mSt S ty v m0 m1) (h' : mSt S ty v m1 m2) : mSt S ty v m0 m2 := fun o => by
  rcases h' o with g | g
  · rw [g]; exact h o
  · exact Or.inr g
theorem mSt.keep {v : Nat → Nat} {m0 m1 : zM} (h : mSt S ty v m0 m1) {o : Nat} (ho : zI m0 337 o = (vStF S v 5 o : Nat)) : zI m1 337 o = (vStF S v 5 o : Nat) := by
  rcases h o with g | g
  · rw [g]; exact ho
  · exact g.2.2
def cLB (b k : Nat) (S : zSn) (ty : Nat → Bool) (ln : Nat → Nat) (μ0 : zM) (n : Nat) : Prop := ∀ p, isPart S p → (p = -1 ∨ ∃ q : Nat, p = q ∧ q < sN S ∧ vSd S ty (sF S q).toNat = q) → 5 ≤ n + dpt S p → pst S (vL S ty ln) p + bLen S (vL S ty ln) (sB S p) ≤ 400 → ∀ m, mBJ S ty ln μ0 m → zok (f7_laysBegins n (mFirst μ0 b k p) (mEnd μ0 b k p) ((pst S (vL S ty ln) p : Nat) : Int) m) (fun r => mBJ S ty ln μ0 r.2 ∧ mSt S ty (vL S ty ln) m r.2 ∧ ∀ o, o < sN S → bel S ty n p o → zI r.2 337 o = (vStF S (vL S ty ln) 5 o : Nat))
theorem m_lB (hC : mCx μ0 b k S ty sa) (hV : mShown S ty μ0) (hL : ∀ f, f < 10 → ty f = true → zI μ0 293 (sa.toNat + 3 + f) = ln f) (hl : ∀ f, f < 10 → ln f ≤ 400) (hTX : vTL S ty ln ≤ 400) : ∀ n, cLB b k S ty ln μ0 n := by
  have hW := hC.2.2.2.2.2.2.2
  have hn60 := hW.1
  intro n
  induction n with
  | zero =>
    intro p hp _ hd
    exfalso
    unfold dpt at hd
    rcases hp with h | ⟨o, h1, h2, h3⟩
    · rw [if_pos h] at hd; omega
    · have hg := hW.2.2.2.1 o h2
      have hg3 := hg.2.2.2.2.2.2.2.2 h3
      rw [if_neg (by omega), h1, show ((o : Int)).toNat = o from rfl] at hd
      omega
  | succ n ih =>
    intro p hp hps hd hbd m0 hJ0
    have hm0 := hC.2.2.2.2.2.2.1.2.2.2.2.2.2 p hp
    show zok (f7_laysBegins_o (fGC n) (mFirst μ0 b k p) (mEnd μ0 b k p) _ m0) _
    unfold f7_laysBegins_o
    refine zok_x3 (fun (x4 x5 : Int) m => mBJ S ty ln μ0 m ∧ mSt S ty (vL S ty ln) m0 m ∧ ∃ pre suf : List Int, sB S p = pre ++ suf ∧ pWk μ0 b k x5 (mEnd μ0 b k p) suf ∧ x4 = ((pst S (vL S ty ln) p + bLen S (vL S ty ln) pre : Nat) : Int) ∧ 0 ≤ x5 ∧ ∀ o ∈ occs pre, zI m 337 o = (vStF S (vL S ty ln) 5 o : Nat) ∧ (vSd S ty (sF S o).toNat = o → ∀ o', o' < sN S → bel S ty n o o' → zI m 337 o' = (vStF S (vL S ty ln) 5 o' : Nat))) (fun _ x5 _ => (mEnd μ0 b k p - x5).toNat) (fun kk x4 x5 m hx ih2 => ?_) zFu _ (mFirst μ0 b k p) m0 ⟨hJ0, fun o => Or.inl rfl, [], sB S p, rfl, hm0.2.2.2, rfl, hm0.1, fun o ho => absurd ho List.not_mem_nil⟩ (by show (mEnd μ0 b k p - mFirst μ0 b k p).toNat < 100000; omega)
    obtain ⟨hJ, hSt, pre, suf, e1, e2, rfl, e4, e5⟩ := hx
    have hC' := hJ.cx hC
    obtain ⟨c1, c2, c3, c4, c5, c6, c7, c8⟩ := hC'
    obtain ⟨b1, b2, b3, b4, b5, b6, b7, b8, b9, b10, b11, b12, b13⟩ := okB_f c1
    have r0 : ∀ c, c ≠ 332 → c ≠ 337 → ∀ i, zI m c i = zI μ0 c i := fun c h1 h2 i => (hJ.1 c ⟨h1, h2⟩ i).1
    have hpre : bLen S (vL S ty ln) pre ≤ bLen S (vL S ty ln) (sB S p) := by rw [e1, bLen_app]; omega
    unfold f7_laysBegins_6
    cases suf with
    | nil =>
      have e9 : x5 = mEnd μ0 b k p := e2
      rw [List.append_nil] at e1
      refine zok_t (by omega) (zok_some ⟨hJ, hSt, fun o ho hb => ?_⟩)
      have hocc : ∀ y, y < sN S → sP S y = p → y ∈ occs pre := fun y hy hyp => by
        rw [← e1, (hW.2.2.2.2.2.2.2.1 p hp).1]
        exact List.mem_filter.mpr ⟨List.mem_range.mpr hy, decide_eq_true hyp⟩
      rcases hb with h | ⟨x, h1, h2, h3, h4⟩
      · exact (e5 o (hocc o ho h)).1
      · exact (e5 x (hocc x h1 h2)).2 h3 o ho h4
    | cons x l =>
      obtain ⟨g1, g2, g3⟩ := e2
      have hx := hW.2.2.2.2.2.2.2.1 p hp
      have hxm : x ∈ sB S p := by rw [e1]; exact List.mem_append_right _ List.mem_cons_self
      have hxr := hx.2.1 x hxm
      have e6 : sB S p = (pre ++ [x]) ++ l := by rw [e1]; simp
      have hpx : bLen S (vL S ty ln) (pre ++ [x]) ≤ bLen S (vL S ty ln) (sB S p) := by
        rw [e6]
        have := bLen_app S (vL S ty ln) (pre ++ [x]) l
        omega
      have hpx2 := bLen_app S (vL S ty ln) pre [x]
      refine zok_f (by omega) ?_
      rw [c3, b4]
      refine zok_gd ⟨by omega, by omega⟩ (zok_lt ?_)
      rw [show zx x5 = x5.toNat from rfl, r0 (b + 4) (by omega) (by omega)]
      rcases g3 with ⟨q1, q2, q3⟩ | ⟨q1, q2, ⟨q3, q5⟩, q4⟩
      · rw [q2]
        have e7 : bLen S (vL S ty ln) [x] = 1 := by show (if 0 ≤ x then 1 else _) + 0 = 1; rw [if_pos q1]
        refine zok_t (by omega) (zok_gl ⟨by omega, by omega⟩ (zok_gl ⟨by omega, by omega⟩ (ih2 _ _ _ ⟨hJ, hSt, pre ++ [x], l, e6, q3, by omega, by omega, fun o ho => ?_⟩ (by show (mEnd μ0 b k p - (x5 + 1)).toNat < (mEnd μ0 b k p - x5).toNat; omega))))
        unfold occs at ho
        rw [List.filterMap_append, List.filterMap_cons, if_neg (by omega)] at ho
        simp only [List.filterMap_nil, List.append_nil] at ho
        exact e5 o ho
      · obtain ⟨o1, o2⟩ := body_occ hW hp hxm q1
        obtain ⟨s1, s2⟩ := vSt5 hW (vL S ty ln) o1
        have hah := ahead_pre hW hp (by rw [e1]) q1
        rw [hah, o2] at s1
        rw [o2] at s2
        have hf := hW.2.2.2.1 _ o1
        have e7 : bLen S (vL S ty ln) [x] = chgN (sC S (-x - 1).toNat) (vL S ty ln (sF S (-x - 1).toNat).toNat) := by show (if 0 ≤ x then 1 else _) + 0 = _; rw [if_neg (by omega)]; rfl
        have hshw : vSh S ty (-x - 1).toNat = true := by
          rw [vSh_iff hW ty o1]
          rcases hps with h | ⟨q, h1, h2, h3⟩
          · exact Or.inl (o2.trans h)
          · right
            rcases hW.2.2.2.2.1 _ o1 with h | ⟨q', h4, h5, h6, h7⟩
            · omega
            · exact ⟨q, o2.trans h1, by omega, h3⟩
        have eo : (1000 + (-x - 1) - 1000 : Int) = (((-x - 1).toNat : Nat) : Int) := by omega
        generalize hoo : (-x - 1).toNat = o at *
        rw [q2]
        refine zok_f (by omega) (zok_gl ⟨by omega, by omega⟩ ?_)
        rw [eo]
        refine zok_gd ⟨by omega, by rw [zl_m2.2.2.2.2.2.2.1]; omega⟩ (zok_lt (zok_gd ⟨by omega, by rw [zl_m.2.2.2.2.2.2.2.2.2]; omega⟩ ?_))
        rw [zx_nat, zI_nk (by decide), r0 330 (by decide) (by decide), (hV.1 o o1).2]
        have hJ1 : mBJ S ty ln μ0 (zsI m 337 o ((pst S (vL S ty ln) p + bLen S (vL S ty ln) pre : Nat) : Int)) := ⟨hJ.1.sI (fun q => q.2 rfl), fun f hf => by rw [zI_nk (by decide)]; exact hJ.2 f hf⟩
        have hSt1 : mSt S ty (vL S ty ln) m (zsI m 337 o ((pst S (vL S ty ln) p + bLen S (vL S ty ln) pre : Nat) : Int)) := fun y => by
          by_cases e : y = o
          · right
            rw [e, zI_eq rfl rfl]
            exact ⟨o1, hshw, by omega⟩
          · left; exact zI_ni e
        have hSo : zI (zsI m 337 o ((pst S (vL S ty ln) p + bLen S (vL S ty ln) pre : Nat) : Int)) 337 o = (vStF S (vL S ty ln) 5 o : Nat) := by rw [zI_eq rfl rfl]; omega
        -- behind the default
        have fin : ∀ m2, mBJ S ty ln μ0 m2 → mSt S ty (vL S ty ln) (zsI m 337 o ((pst S (vL S ty ln) p + bLen S (vL S ty ln) pre : Nat) : Int)) m2 → (vSd S ty (sF S o).toNat = o → ∀ o', o' < sN S → bel S ty n o o' → zI m2 337 o' = (vStF S (vL S ty ln) 5 o' : Nat)) → zok (f7_laysBegins_85 (fGC n) (mFirst μ0 b k p) (mEnd μ0 b k p) ((pst S (vL S ty ln) p : Nat) : Int) kk ((pst S (vL S ty ln) p + bLen S (vL S ty ln) pre : Nat) : Int) (o : Int) m2) (fun r => mBJ S ty ln μ0 r.2 ∧ mSt S ty (vL S ty ln) m0 r.2 ∧ ∀ o, o < sN S → bel S ty (n + 1) p o → zI r.2 337 o = (vStF S (vL S ty ln) 5 o : Nat)) := by
          intro m2 hJ2 hSt2 hb2
          unfold f7_laysBegins_85
          refine zok_cl (m_lengthAt (hJ2.cx hC) (hJ2.sh hV) (fun f hf hT => ((hJ2.1 293 (by decide) _).1).trans (hL f hf hT)) hl o1 (⟨zSm.rf, hJ2.2⟩ : mJ S ty ln m2 m2)) (fun r m3 hr => ?_)
          obtain ⟨hr1, hr2, hr3⟩ := hr
          have hr1' : r = ((chgN (sC S o) (vL S ty ln (sF S o).toNat) : Nat) : Int) := by
            have h9 : r = ((chgN (sC S o) (mL S ty ln (sF S o).toNat) : Nat) : Int) := hr1
            rw [mL_same hW ty hl (by omega) (by omega)] at h9
            exact h9
          subst hr1'
          have hJ3 : mBJ S ty ln μ0 m3 := ⟨hJ2.1.tr (hr2.mono (fun c hc => hc.1)), hr3⟩
          have h337 : ∀ i, zI m3 337 i = zI m2 337 i := fun i => (hr2 337 (by decide) i).1
          refine zok_gl ⟨by omega, by omega⟩ (zok_co (m_of (hJ3.cx hC) (show o < 60 by omega)) (fun r hr => ?_))
          subst hr
          rw [(hJ3.cx hC).2.2.1, b11, zx_nat, (hJ3.1 (b + 11) ⟨by omega, by omega⟩ _).1]
          have hE : zI μ0 (b + 11) (60 * k + o) + 1 ≤ mEnd μ0 b k p := by
            cases l with
            | nil => exact Int.le_of_eq q4
            | cons y l => exact Int.le_of_lt q4.2.1
          refine zok_gd ⟨by omega, by omega⟩ (zok_gl ⟨by omega, by omega⟩ (ih2 _ _ _ ⟨hJ3, hSt.tr (hSt1.tr (hSt2.tr (fun y => Or.inl (h337 y)))), pre ++ [x], l, e6, q4, by omega, by omega, fun y hy => ?_⟩ (by show (mEnd μ0 b k p - _).toNat < (mEnd μ0 b k p - x5).toNat; omega)))
          unfold occs at hy
          rw [List.filterMap_append, List.filterMap_cons, if_pos q1, List.filterMap_nil, hoo] at hy
          rcases List.mem_append.mp hy with h | h
          · have h8 := e5 y h
            exact ⟨by rw [h337]; exact hSt2.keep (hSt1.keep h8.1), fun hd2 o' ho' hb' => by rw [h337]; exact hSt2.keep (hSt1.keep (h8.2 hd2 o' ho' hb'))⟩
          · rw [List.mem_singleton.mp h]
            exact ⟨by rw [h337]; exact hSt2.keep hSo, fun hd2 o' ho' hb' => by rw [h337]; exact hb2 hd2 o' ho' hb'⟩
        by_cases hdd : vSd S ty (sF S o).toNat = o
        · rw [decide_eq_true hdd]
          refine zok_f (by decide) (zok_gl ⟨by omega, by omega⟩ (zok_co (m_of (hJ1.cx hC) (show o < 60 by omega)) (fun r hr => ?_)))
          subst hr
          obtain ⟨o9, p1, p2, p3, p4, p5, p6, p7⟩ := vSd_part (S := S) (ty := ty) (f := (sF S o).toNat) (by omega)
          have : o9 = o := by omega
          subst this
          have hpo : isPart S (o9 : Int) := by rw [← hdd]; exact p7
          have hc0 : sC S o9 = 0 := by
            rcases Decidable.em (sC S o9 = 0) with h | h
            · exact h
            · have := hf.2.2.2.2.2.1 h; omega
          have hpsto : pst S (vL S ty ln) (o9 : Int) = vStF S (vL S ty ln) 5 o9 := by unfold pst; rw [if_neg (by omega)]; rfl
          have hdpo : dpt S (o9 : Int) = (sG S o9).toNat + 1 := by unfold dpt; rw [if_neg (by omega)]; rfl
          have hvo : vL S ty ln (sF S o9).toNat = bLen S (vL S ty ln) (sB S (o9 : Int)) := by rw [vL_eq hW ty ln (by omega), if_neg (by omega), hdd]
          rw [hc0, show chgN 0 (vL S ty ln (sF S o9).toNat) = vL S ty ln (sF S o9).toNat from rfl] at e7
          have eF : x5 + 1 = mFirst μ0 b k (o9 : Int) := by unfold mFirst; rw [if_neg (by omega), show ((o9 : Int)).toNat = o9 from rfl, q5]
          have eE : zI μ0 (b + 11) (60 * k + o9) = mEnd μ0 b k (o9 : Int) := by unfold mEnd; rw [if_neg (by omega)]; rfl
          rw [zR_sI, c3, b11, zx_nat, zI_nk (by omega), r0 (b + 11) (by omega) (by omega), eF, eE]
          have hpst9 : ((pst S (vL S ty ln) p + bLen S (vL S ty ln) pre : Nat) : Int) = ((pst S (vL S ty ln) (o9 : Int) : Nat) : Int) := by rw [hpsto]; omega
          have hm9 := hC.2.2.2.2.2.2.1.2.2.2.2.2.2 _ hpo
          refine zok_gd ⟨by omega, by omega⟩ (zok_cl (P := fun r => mBJ S ty ln μ0 r.2 ∧ mSt S ty (vL S ty ln) (zsI m 337 o9 ((pst S (vL S ty ln) p + bLen S (vL S ty ln) pre : Nat) : Int)) r.2 ∧ ∀ o, o < sN S → bel S ty n o9 o → zI r.2 337 o = (vStF S (vL S ty ln) 5 o : Nat)) ?_ (fun r m2 hr => fin m2 hr.1 hr.2.1 (fun _ => hr.2.2)))
          have := ih (o9 : Int) hpo (Or.inr ⟨o9, rfl, o1, hdd⟩) (by rw [hdpo]; omega) (by rw [hpsto, ← hvo]; omega) _ hJ1
          rw [← hpst9] at this
          exact this
        · rw [decide_eq_false hdd]
          exact zok_t rfl (fin _ hJ1 (fun y => Or.inl rfl) (fun h => absurd h hdd))
theorem m_beginOf (hC : mCx μ0 b k S ty sa) (hV : mShown S ty μ0) (hL : ∀ f, f < 10 → ty f = true → zI μ0 293 (sa.toNat + 3 + f) = ln f) (hl : ∀ f, f < 10 → ln f ≤ 400) (hTX : vTL S ty ln ≤ 400) (hMe : ∀ f, f < 10 → zI μ0 332 f = -1 ∨ zI μ0 332 f = mL S ty ln f) {o : Nat} (ho : o < sN S) : zok (f7_beginOf (o : Int) μ0) (fun r => r.1 = vStart S ty (vL S ty ln) o ∧ zSm (fun c => c ≠ 332 ∧ c ≠ 337) μ0 r.2) := by
  have hW := hC.2.2.2.2.2.2.2
  have hn60 := hW.1
  unfold f7_beginOf
  refine zok_x2 (fun (x2 : Int) m => ∃ j : Nat, x2 = j ∧ j ≤ sN S ∧ mBJ S ty ln μ0 m ∧ ∀ i, i < j → zI m 337 i = -1) (fun x2 _ => 60 - x2.toNat) (fun kk x2 m hx ih => ?_) zFu 0 μ0 ⟨0, rfl, by omega, ⟨zSm.rf, hMe⟩, fun i hi => absurd hi (Nat.not_lt_zero i)⟩ (by show 60 - 0 < 100000; omega)
  obtain ⟨j, rfl, h1, hJ, h2⟩ := hx
  have hC' := hJ.cx hC
  obtain ⟨c1, c2, c3, c4, c5, c6, c7, c8⟩ := hC'
  obtain ⟨b1, b2, b3, b4, b5, b6, b7, b8, b9, b10, b11, b12, b13⟩ := okB_f c1
  unfold f7_beginOf_2
  refine zok_co (m_many (hJ.cx hC)) (fun r hr => ?_)
  subst hr
  refine zok_if (fun h9 => ?_) (fun h9 => zok_gd ⟨by omega, by rw [zl_m2.2.2.2.2.2.2.1]; omega⟩ (zok_lt (zok_gl ⟨by omega, by omega⟩ (ih _ _ ⟨j + 1, by omega, by omega, ⟨hJ.1.sI (fun q => q.2 rfl), fun f hf => by rw [zI_nk (by decide)]; exact hJ.2 f hf⟩, fun i hi => ?_⟩ (by show 60 - ((j : Int) + 1).toNat < 60 - (j : Int).toNat; omega)))))
  · rw [c4, c3, b3]
    refine zok_gd ⟨by omega, by omega⟩ (zok_gl ⟨by omega, by omega⟩ (zok_gd ⟨by omega, by omega⟩ ?_))
    rw [zx_nat, show zx ((k : Int) + 1) = k + 1 from by show ((k : Int) + 1).toNat = _; omega, (hJ.1 (b + 3) (by omega) _).1, (hJ.1 (b + 3) (by omega) _).1]
    have h := m_lB hC hV hL hl hTX 40 (-1) (Or.inl rfl) (Or.inl rfl) (by omega) (by
      have e : pst S (vL S ty ln) (-1) = 0 := rfl
      rw [e, Nat.zero_add]
      exact hTX) m hJ
    rw [show mFirst μ0 b k (-1) = zI μ0 (b + 3) k from if_pos rfl, show mEnd μ0 b k (-1) = zI μ0 (b + 3) (k + 1) from if_pos rfl, show pst S (vL S ty ln) (-1) = 0 from rfl] at h
    refine zok_cl h (fun r m1 hr => zok_gd ⟨by omega, by rw [zl_m2.2.2.2.2.2.2.1]; omega⟩ (zok_some ⟨?_, hr.1.1⟩))
    show zI m1 337 (zx (o : Int)) = _
    rw [zx_nat]
    unfold vStart
    by_cases hs : vSh S ty o = true
    · rw [if_pos hs]
      have hg := hW.2.2.2.1 o ho
      exact hr.2.2 o ho (bel_le S ty (by omega) _ _ (shown_bel hW ty (o + 1) o (by omega) ho hs))
    · rw [if_neg hs]
      rcases hr.2.1 o with g | g
      · exact g.trans (h2 o (by omega))
      · exact absurd g.2.1 hs
  · rw [zx_nat]
    by_cases e : i = j
    · rw [zI_eq rfl e]
    · rw [zI_ni e]; exact h2 i (by omega)
end mBeg
