/-! THE REFERENCE'S ACTS: what they are made of -/
/-- the reference's cells but for the sessions' row -/
def rX (A : zA) (μ : zM) : Prop :=
  rLb (aN A) (aL A) μ ∧ (zI μ 292 10 = (aB A).length ∧ ∀ i, i < (aB A).length → zI μ 313 i = (aB A).getD i 0) ∧
  (zI μ 292 11 = (aE A).1 ∧ zI μ 292 12 = (aE A).2) ∧ (∀ i, i < 10 → zI μ 298 i = aC A i) ∧
  (zI μ 292 7 = (aU A).length ∧ ∀ j s, (aU A)[j]? = some s → pMs μ 295 (2256 * ((aU A).length - 1 - j)) s) ∧
  ∀ j, j < 2 → (zI μ 297 j = 0 ∧ aV A j = none) ∨ (zI μ 297 j = 1 ∧ ∃ s, aV A j = some s ∧ pMs μ 296 (2256 * j) s)
def mFb (μ m : zM) : Prop := zSm (fun c => c < 292 ∨ (294 < c ∧ c < 328) ∨ 338 < c) μ m ∧ (∀ i, zR m 292 i = zR μ 292 i) ∧ ∀ i, (i = 0 ∨ i = 7 ∨ i = 10 ∨ i = 11 ∨ i = 12) → zI m 292 i = zI μ 292 i
theorem tri413 (a b : Nat) : a = b ∨ 413 * a + 413 ≤ 413 * b ∨ 413 * b + 413 ≤ 413 * a := by
  rcases Nat.lt_trichotomy a b with h | h | h
  · right; left; omega
  · left; exact h
  · right; right; omega
theorem tri40 (a b : Nat) : a = b ∨ 40 * a + 40 ≤ 40 * b ∨ 40 * b + 40 ≤ 40 * a := by
  rcases Nat.lt_trichotomy a b with h | h | h
  · right; left; omega
  · left; exact h
  · right; right; omega
section mAct
variable {A : zA} {c : Int} {μ m m' : zM} {s : zSt} {L : Nat → zSn} {n l f : Nat}
theorem rM.x (h : rM A μ) : rX A μ := ⟨h.1, h.2.2.1, h.2.2.2.1, h.2.2.2.2.1, h.2.2.2.2.2.1, h.2.2.2.2.2.2⟩
theorem rX.rm (h : rX A μ) (hs : pMs μ 293 0 s) : rM (setS A s) μ := ⟨h.1, hs, h.2.1, h.2.2.1, h.2.2.2.1, h.2.2.2.2.1, h.2.2.2.2.2⟩
theorem rX.fb (h : rX A m) (hf : mFb m m') : rX A m' := by
  obtain ⟨h1, h3, h4, h5, h6, h7⟩ := h
  have e : ∀ c, (294 < c ∧ c < 328) → ∀ i, zI m' c i = zI m c i := fun c hc i => (hf.1 c (by omega) i).1
  refine ⟨h1.keep (hf.1.mono (fun c hc => by omega)) hf.2.1, ⟨(hf.2.2 10 (by omega)).trans h3.1, fun i hi => (e 313 (by omega) i).trans (h3.2 i hi)⟩, ⟨(hf.2.2 11 (by omega)).trans h4.1, (hf.2.2 12 (by omega)).trans h4.2⟩, fun i hi => (e 298 (by omega) i).trans (h5 i hi), ⟨(hf.2.2 7 (by omega)).trans h6.1, fun j s hj => pMs_keep (e 295 (by omega)) (h6.2 j s hj)⟩, fun j hj => ?_⟩
  rcases h7 j hj with ⟨g1, g2⟩ | ⟨g1, s, g2, g3⟩
  · exact Or.inl ⟨(e 297 (by omega) j).trans g1, g2⟩
  · exact Or.inr ⟨(e 297 (by omega) j).trans g1, s, g2, pMs_keep (e 296 (by omega)) g3⟩
theorem mScr.fb (h : mScr m m') : mFb m m' := ⟨h.1.mono (fun c hc => by omega), h.2.1, h.2.2⟩
theorem mFb.tr {m2 : zM} (h : mFb m m') (h' : mFb m' m2) : mFb m m2 := ⟨h.1.tr h'.1, fun i => (h'.2.1 i).trans (h.2.1 i), fun i hi => (h'.2.2 i hi).trans (h.2.2 i hi)⟩
theorem mFb.s93 (h : zSm (fun c => c ≠ 293) m m') : mFb m m' := ⟨h.mono (fun c hc => by omega), fun i => (h 292 (by decide) i).2.2, fun i _ => (h 292 (by decide) i).1⟩
theorem mFb.s94 (h : zSm (fun c => c ≠ 294) m m') : mFb m m' := ⟨h.mono (fun c hc => by omega), fun i => (h 292 (by decide) i).2.2, fun i _ => (h 292 (by decide) i).1⟩
/-- an act is under way: how it stood lies aside -/
def mB (A : zA) (μ m : zM) : Prop := rX A m ∧ pMs m 294 0 (aS A) ∧ zI m 292 0 = 0 ∧ zSm (fun c => c < 292 ∨ 338 < c) μ m
theorem mB.fb (h : mB A μ m) (hf : mFb m m') (h4 : ∀ i, zI m' 294 i = zI m 294 i) : mB A μ m' := ⟨h.1.fb hf, pMs_keep h4 h.2.1, (hf.2.2 0 (by omega)).trans h.2.2.1, h.2.2.2.tr (hf.1.mono (fun c hc => by omega))⟩
theorem mB.scr (h : mB A μ m) (hf : mScr m m') : mB A μ m' := h.fb hf.fb (fun i => (hf.1 294 (by omega) i).1)
theorem mB.row (h : mB A μ m) (hf : zSm (fun c => c ≠ 293) m m') : mB A μ m' := h.fb (mFb.s93 hf) (fun i => (hf 294 (by decide) i).1)
def nAct (A : zA) (μ : zM) (o : Nat ⊕ (Int × zSt)) : Int × zM → Prop := fun r => r.1 = (actA A o).1 ∧ rM (actA A o).2 r.2 ∧ zI r.2 292 0 = 0 ∧ zSm (fun c => c < 292 ∨ 338 < c) μ r.2
theorem b_begins (hs : wSt (aS A)) (hR : rM A m) (h0 : zI m 292 0 = 0) (hm : zSm (fun c => c < 292 ∨ 338 < c) μ m) : zok (f7_begins m) (fun m' => mB A μ m' ∧ pMs m' 293 0 (aS A)) := by
  unfold f7_begins
  refine zok_cm (m_copies (a := 293) (p := 0) (d := 294) (q := 0) (by rw [zl_m.1]; decide) (by rw [zl_m.2.1]; decide) (by rw [zl_m.1, zl_m.2.1]; decide) (Or.inl (by decide))) (fun m' h => zok_some ⟨⟨hR.x.fb (mFb.s94 h.1), ?_, ?_, ?_⟩, ?_⟩)
  · exact pMs_row hs (fun i hi => h.2.1 i hi) hR.2.1
  · rw [(h.1 292 (by decide) 0).1]; exact h0
  · exact hm.tr (h.1.mono (fun c hc => by omega))
  · exact pMs_keep (fun i => (h.1 293 (by decide) i).1) hR.2.1
theorem b_refused (hs : wSt (aS A)) (hA : ∀ i, i < 10 → 0 ≤ aC A i ∧ aC A i ≤ 1000) (h : mB A μ m) {r : Nat} (h1 : 1 ≤ r) (h2 : r ≤ 9) : zok (f7_refused (r : Int) m) (nAct A μ (.inl r)) := by
  have ha := hA r (by omega)
  unfold f7_refused
  rw [zx_nat, h.1.2.2.2.1 r (by omega)]
  refine zok_gd ⟨by omega, by rw [zl_m.2.2.2.2.2.1]; omega⟩ (zok_gl ⟨by omega, by omega⟩ (zok_gd ⟨by omega, by rw [zl_m.2.2.2.2.2.1]; omega⟩ (zok_lt (zok_cm (m_copies (a := 294) (p := 0) (d := 293) (q := 0) (by rw [zl_m.2.1]; decide) (by rw [zl_m.1]; decide) (by rw [zl_m.1, zl_m.2.1]; decide) (Or.inl (by decide))) (fun m' hc => zok_gl ⟨by omega, by omega⟩ (zok_some ⟨rfl, ?_, ?_, ?_⟩))))))
  · obtain ⟨x1, x2, x3, x4, x5, x6⟩ := h.1
    have e : ∀ c, c ≠ 293 → c ≠ 298 → ∀ i, zI m' c i = zI m c i := fun c c1 c2 i => by rw [(hc.1 c c1 i).1, zI_nk c2]
    have eR : ∀ i, zR m' 292 i = zR m 292 i := fun i => (hc.1 292 (by decide) i).2.2
    refine ⟨?_, ?_, ⟨(e 292 (by decide) (by decide) 10).trans x2.1, fun i hi => (e 313 (by decide) (by decide) i).trans (x2.2 i hi)⟩, ⟨(e 292 (by decide) (by decide) 11).trans x3.1, (e 292 (by decide) (by decide) 12).trans x3.2⟩, fun i hi => ?_, ⟨(e 292 (by decide) (by decide) 7).trans x5.1, fun j s hj => pMs_keep (e 295 (by decide) (by decide)) (x5.2 j s hj)⟩, fun j hj => ?_⟩
    · exact x1.keep (fun c hc2 i => ⟨e c (by omega) (by omega) i, (hc.1 c (by omega) i).2.1, (hc.1 c (by omega) i).2.2⟩) eR
    · exact pMs_row hs (fun i hi => (hc.2.1 i hi).trans (zI_nk (by decide))) h.2.1
    · show zI m' 298 i = if i = r then aC A r + 1 else aC A i
      rw [(hc.1 298 (by decide) i).1]
      by_cases q : i = r
      · rw [if_pos q, zI_eq rfl q]
      · rw [if_neg q, zI_ni q]; exact x4 i hi
    · rcases x6 j hj with ⟨g1, g2⟩ | ⟨g1, s, g2, g3⟩
      · exact Or.inl ⟨(e 297 (by decide) (by decide) j).trans g1, g2⟩
      · exact Or.inr ⟨(e 297 (by decide) (by decide) j).trans g1, s, g2, pMs_keep (e 296 (by decide) (by decide)) g3⟩
  · rw [(hc.1 292 (by decide) 0).1, zI_nk (by decide)]; exact h.2.2.1
  · exact h.2.2.2.tr ((zSm.rf.sI (by omega)).tr (hc.1.mono (fun c hc => by omega)))
theorem b_done58 (hs : wSt (aS A)) (h5 : ∀ i, i < 10 → 0 ≤ zI m 298 i ∧ zI m 298 i ≤ 1000) (v : Int) {n : Nat} (hn : n ≤ 7) (h7 : zI m 292 7 = (n : Nat)) (h4 : pMs m 294 0 (aS A)) : zok (f7_done_58 v m) (fun r => r.1 = v ∧ zSm (fun c => c ≠ 292 ∧ c ≠ 295 ∧ c ≠ 298) m r.2 ∧ (∀ i, zR r.2 292 i = zR m 292 i) ∧ (∀ i, i ≠ 7 → zI r.2 292 i = zI m 292 i) ∧ zI r.2 292 7 = ((n + 1 : Nat) : Int) ∧ pMs r.2 295 (2256 * n) (aS A) ∧ (∀ i, i < 2256 * n → zI r.2 295 i = zI m 295 i) ∧ ∀ i, zI r.2 298 i = if i = 0 then zI m 298 0 + 1 else zI m 298 i) := by
  have ha := h5 0 (by decide)
  unfold f7_done_58
  rw [h7]
  refine zok_gl ⟨by omega, by omega⟩ ?_
  rw [show 2256 * ((n : Nat) : Int) = ((2256 * n : Nat) : Int) by omega]
  refine zok_cm (m_copies (a := 294) (p := 0) (d := 295) (q := 2256 * n) (by rw [zl_m.2.1]; decide) (by rw [zl_m.2.2.1]; omega) (by rw [zl_m.2.1, zl_m.2.2.1]; decide) (Or.inl (by decide))) (fun m2 hc => ?_)
  rw [(hc.1 292 (by decide) 7).1, h7]
  refine zok_gl ⟨by omega, by omega⟩ (zok_lt (zok_gd ⟨by decide, by rw [zl_m.2.2.2.2.2.1]; decide⟩ ?_))
  have e98 : zI (zsI m2 292 7 (((n : Nat) : Int) + 1)) 298 (zx 0) = zI m 298 0 := by rw [zI_nk (by decide)]; exact (hc.1 298 (by decide) 0).1
  rw [e98]
  refine zok_gl ⟨by omega, by omega⟩ (zok_gd ⟨by decide, by rw [zl_m.2.2.2.2.2.1]; decide⟩ (zok_lt (zok_some ⟨rfl, ?_, fun i => ?_, fun i hi => ?_, ?_, ?_, fun i hi => ?_, fun i => ?_⟩)))
  · exact ((hc.1.mono (fun c h => h.2.1)).sI (fun q => q.1 rfl)).sI (fun q => q.2.2 rfl)
  · exact (hc.1 292 (by decide) i).2.2
  · show zI (zsI (zsI m2 292 7 _) 298 _ _) 292 i = _
    rw [zI_nk (by decide), zI_ni hi, (hc.1 292 (by decide) i).1]
  · show zI (zsI (zsI m2 292 7 _) 298 _ _) 292 7 = _
    rw [zI_nk (by decide), zI_eq rfl rfl]; omega
  · refine pMs_row hs (fun i hi => ?_) h4
    show zI (zsI (zsI m2 292 7 _) 298 _ _) 295 _ = _
    rw [zI_nk (by decide), zI_nk (by decide)]
    exact hc.2.1 i hi
  · show zI (zsI (zsI m2 292 7 _) 298 _ _) 295 _ = _
    rw [zI_nk (by decide), zI_nk (by decide)]
    exact hc.2.2.1 i (Or.inl hi)
  · show zI (zsI (zsI m2 292 7 (((n : Nat) : Int) + 1)) 298 0 (zI m 298 0 + 1)) 298 i = _
    by_cases q : i = 0
    · rw [if_pos q, zI_eq rfl q]
    · rw [if_neg q, zI_ni q, zI_nk (by decide)]; exact (hc.1 298 (by decide) i).1
theorem b_done (hs : wSt (aS A)) (hA : ∀ i, i < 10 → 0 ≤ aC A i ∧ aC A i ≤ 1000) (hu : (aU A).length ≤ 8 ∧ ∀ t ∈ aU A, wSt t) (h : mB A μ m) (hp : pMs m 293 0 s) (v : Int) : zok (f7_done v m) (nAct A μ (.inr (v, s))) := by
  obtain ⟨⟨x1, x2, x3, x4, x5, x6⟩, x7, x8, x9⟩ := h
  -- behind the shift
  have fin : ∀ (m1 : zM) (n : Nat), n ≤ 7 → zSm (fun c => c ≠ 292 ∧ c ≠ 295) m m1 → (∀ i, zR m1 292 i = zR m 292 i) → (∀ i, i ≠ 7 → zI m1 292 i = zI m 292 i) → zI m1 292 7 = (n : Nat) → ((aS A :: aU A).take 8).length = n + 1 → (∀ j t, 1 ≤ j → ((aS A :: aU A).take 8)[j]? = some t → wSt t ∧ pMs m1 295 (2256 * (n - j)) t) → zok (f7_done_58 v m1) (nAct A μ (.inr (v, s))) := by
    intro m1 n hn f1 f2 f3 f4 f5 f6
    refine zok_mono (b_done58 (m := m1) hs (fun i hi => by rw [(f1 298 (by decide) i).1, x4 i hi]; exact hA i hi) v hn f4 (pMs_keep (fun i => (f1 294 (by decide) i).1) x7)) (fun r hr => ?_)
    obtain ⟨r1, r2, r3, r4, r5, r6, r7, r8⟩ := hr
    have e : ∀ c, c ≠ 292 → c ≠ 295 → c ≠ 298 → ∀ i, zI r.2 c i = zI m c i := fun c c1 c2 c3 i => ((r2 c ⟨c1, c2, c3⟩ i).1).trans (f1 c ⟨c1, c2⟩ i).1
    have eR : ∀ i, zR r.2 292 i = zR m 292 i := fun i => (r3 i).trans (f2 i)
    have eI : ∀ i, i ≠ 7 → zI r.2 292 i = zI m 292 i := fun i hi => (r4 i hi).trans (f3 i hi)
    refine ⟨r1, ⟨?_, pMs_keep (e 293 (by decide) (by decide) (by decide)) hp, ⟨(eI 10 (by decide)).trans x2.1, fun i hi => (e 313 (by decide) (by decide) (by decide) i).trans (x2.2 i hi)⟩, ⟨(eI 11 (by decide)).trans x3.1, (eI 12 (by decide)).trans x3.2⟩, fun i hi => ?_, ⟨?_, fun j t hj => ?_⟩, fun j hj => ?_⟩, (eI 0 (by decide)).trans x8, ?_⟩
    · exact x1.keep (fun c hc2 i => ⟨e c (by omega) (by omega) (by omega) i, ((r2 c ⟨by omega, by omega, by omega⟩ i).2.1).trans (f1 c ⟨by omega, by omega⟩ i).2.1, ((r2 c ⟨by omega, by omega, by omega⟩ i).2.2).trans (f1 c ⟨by omega, by omega⟩ i).2.2⟩) eR
    · show zI r.2 298 i = if i = 0 then aC A 0 + 1 else aC A i
      rw [r8 i, (f1 298 (by decide) 0).1, (f1 298 (by decide) i).1, x4 0 (by decide)]
      by_cases q : i = 0
      · rw [if_pos q, if_pos q]
      · rw [if_neg q, if_neg q, x4 i hi]
    · show zI r.2 292 7 = (((aS A :: aU A).take 8).length : Int)
      rw [r5, f5]
    · have hj' : ((aS A :: aU A).take 8)[j]? = some t := hj
      have hjl : j < ((aS A :: aU A).take 8).length := by
        rcases Nat.lt_or_ge j ((aS A :: aU A).take 8).length with h | h
        · exact h
        · rw [List.getElem?_eq_none h] at hj'; cases hj'
      show pMs r.2 295 (2256 * (((aS A :: aU A).take 8).length - 1 - j)) t
      rw [f5, Nat.add_sub_cancel]
      by_cases q : j = 0
      · subst q
        have et : aS A = t := by simpa using hj'
        rw [← et]; exact r6
      · obtain ⟨w1, w2⟩ := f6 j t (by omega) hj'
        exact pMs_row w1 (fun i hi => r7 _ (by omega)) w2
    · rcases x6 j hj with ⟨g1, g2⟩ | ⟨g1, s, g2, g3⟩
      · exact Or.inl ⟨(e 297 (by decide) (by decide) (by decide) j).trans g1, g2⟩
      · exact Or.inr ⟨(e 297 (by decide) (by decide) (by decide) j).trans g1, s, g2, pMs_keep (e 296 (by decide) (by decide) (by decide)) g3⟩
    · exact x9.tr ((f1.mono (fun c hc => by omega)).tr (r2.mono (fun c hc => by omega)))
  have hmem : ∀ (j : Nat) (t : zSt), (aU A)[j]? = some t → t ∈ aU A ∧ j < (aU A).length := fun j t hj => by
    have hjl : j < (aU A).length := by
      rcases Nat.lt_or_ge j (aU A).length with h | h
      · exact h
      · rw [List.getElem?_eq_none h] at hj; cases hj
    rw [List.getElem?_eq_getElem hjl] at hj
    exact ⟨by rw [← Option.some.inj hj]; exact List.getElem_mem hjl, hjl⟩
  unfold f7_done
  rw [x5.1]
  refine zok_if (fun h8 => ?_) (fun h8 => ?_)
  · refine zok_gl ⟨by omega, by omega⟩ (zok_lt ?_)
    have h8' : (aU A).length = 8 := by omega
    -- the rows are moved
    refine zok_x2 (fun (x : Int) m1 => ∃ j : Nat, x = j ∧ j ≤ 7 ∧ zSm (fun c => c ≠ 292 ∧ c ≠ 295) m m1 ∧ (∀ i, zR m1 292 i = zR m 292 i) ∧ (∀ i, i ≠ 7 → zI m1 292 i = zI m 292 i) ∧ zI m1 292 7 = 7 ∧ (∀ i, i < 2256 * j → zI m1 295 i = zI m 295 (2256 + i)) ∧ ∀ i, 2256 * j ≤ i → zI m1 295 i = zI m 295 i) (fun x _ => 7 - x.toNat) (fun kk x m1 hx ih => ?_) zFu 0 _ ⟨0, rfl, by omega, (zSm.rf.sI (fun q => q.1 rfl)), fun _ => rfl, fun i hi => zI_ni hi, by rw [zI_eq rfl rfl]; omega, fun i hi => absurd hi (by omega), fun i _ => zI_nk (by decide)⟩ (by show 7 - 0 < 100000; omega)
    obtain ⟨j, rfl, j1, j2, j3, j4, j5, j6, j7⟩ := hx
    unfold f7_done_21
    rw [j5]
    refine zok_if (fun h9 => ?_) (fun h9 => ?_)
    · have hj7 : j = 7 := by omega
      subst hj7
      refine fin m1 7 (Nat.le_refl _) j2 j3 j4 j5 (by rw [List.length_take, List.length_cons]; omega) (fun i t hi ht => ?_)
      rw [List.getElem?_take] at ht
      by_cases q : i < 8
      · rw [if_pos q] at ht
        obtain ⟨i', rfl⟩ : ∃ i', i = i' + 1 := ⟨i - 1, by omega⟩
        have ht' : (aU A)[i']? = some t := by simpa using ht
        refine ⟨hu.2 t (hmem i' t ht').1, ?_⟩
        have hp2 := x5.2 i' t ht'
        rw [h8'] at hp2
        refine pMs_row (hu.2 t (hmem i' t ht').1) (fun y hy => ?_) hp2
        rw [j6 _ (by omega)]
        congr 1; omega
      · rw [if_neg q] at ht; cases ht
    · refine zok_gl ⟨by omega, by omega⟩ (zok_gl ⟨by omega, by omega⟩ (zok_gl ⟨by omega, by omega⟩ ?_))
      rw [show 2256 * ((j : Int) + 1) = ((2256 * (j + 1) : Nat) : Int) by omega, show 2256 * ((j : Nat) : Int) = ((2256 * j : Nat) : Int) by omega]
      refine zok_cm (m_copies (a := 295) (p := 2256 * (j + 1)) (d := 295) (q := 2256 * j) (by rw [zl_m.2.2.1]; omega) (by rw [zl_m.2.2.1]; omega) (by rw [zl_m.2.2.1]; decide) (Or.inr (by omega))) (fun m2 hc => zok_gl ⟨by omega, by omega⟩ (ih _ _ ⟨j + 1, by omega, by omega, j2.tr (hc.1.mono (fun c h => h.2)), fun i => ((hc.1 292 (by decide) i).2.2).trans (j3 i), fun i hi => ((hc.1 292 (by decide) i).1).trans (j4 i hi), ((hc.1 292 (by decide) 7).1).trans j5, fun i hi => ?_, fun i hi => ?_⟩ (by show 7 - ((j : Int) + 1).toNat < 7 - (j : Int).toNat; omega)))
      · by_cases q : i < 2256 * j
        · rw [hc.2.2.1 i (Or.inl q)]; exact j6 i q
        · have := hc.2.1 (i - 2256 * j) (by omega)
          rw [show 2256 * j + (i - 2256 * j) = i by omega] at this
          rw [this, j7 _ (by omega)]
          congr 1; omega
      · rw [hc.2.2.1 i (Or.inr (by omega))]; exact j7 i (by omega)
  · refine fin m (aU A).length (by omega) zSm.rf (fun _ => rfl) (fun _ _ => rfl) x5.1 (by rw [List.length_take, List.length_cons]; omega) (fun i t hi ht => ?_)
    rw [List.getElem?_take] at ht
    by_cases q : i < 8
    · rw [if_pos q] at ht
      obtain ⟨i', rfl⟩ : ∃ i', i = i' + 1 := ⟨i - 1, by omega⟩
      have ht' : (aU A)[i']? = some t := by simpa using ht
      refine ⟨hu.2 t (hmem i' t ht').1, ?_⟩
      have hp2 := x5.2 i' t ht'
      rw [show (aU A).length - (i' + 1) = (aU A).length - 1 - i' by omega]; exact hp2
    · rw [if_neg q] at ht; cases ht
theorem b_tells (hs : wSt (aS A)) (hA : ∀ i, i < 10 → 0 ≤ aC A i ∧ aC A i ≤ 1000) (hu : (aU A).length ≤ 8 ∧ ∀ t ∈ aU A, wSt t) (h : mB A μ m) {w : Nat} (hw : w ≤ 9) (hp : w = 0 → pMs m 293 0 s) (v : Int) : zok (f7_tells (w : Int) v m) (nAct A μ (if w = 0 then .inr (v, s) else .inl w)) := by
  unfold f7_tells
  refine zok_if (fun h0 => ?_) (fun h0 => ?_)
  · rw [if_pos (by omega)]
    exact zok_cl (b_done hs hA hu h (hp (by omega)) v) (fun x m hx => zok_some hx)
  · rw [if_neg (by omega)]
    exact zok_cl (b_refused hs hA h (by omega) hw) (fun x m hx => zok_some hx)
/-- bytes of a row come behind what is typed -/
theorem b_typesR {r h n : Nat} {y : Int} (hl : l < 4) (hf : f < 10) (hc : zI m 293 (604 + 413 * l + 1) = (f : Nat)) (hy : zI m 293 (604 + 413 * l + 2) = y) (hh1 : mbit y f = true → zI m 293 (604 + 413 * l + 3 + f) = (h : Nat)) (hh2 : mbit y f = false → h = 0) (hh : h ≤ 40) (hn : n ≤ 400) (hr : r ≠ 293) (hrl : n ≤ zln r) :
    zok (f7_types (l : Int) r (n : Int) m) (fun q => (h + n > 40 → q = (false, m)) ∧ (h + n ≤ 40 → q.1 = true ∧ zSm (fun c => c ≠ 293) m q.2 ∧ zI q.2 293 (604 + 413 * l + 2) = zor y (zshl 1 (f : Nat)) ∧ zI q.2 293 (604 + 413 * l + 3 + f) = ((h + n : Nat) : Int) ∧ (∀ i, i < n → zI q.2 293 (604 + 413 * l + 13 + 40 * f + h + i) = zI m r i) ∧ ∀ i, i ≠ 604 + 413 * l + 2 → i ≠ 604 + 413 * l + 3 + f → (i < 604 + 413 * l + 13 + 40 * f + h ∨ 604 + 413 * l + 13 + 40 * f + h + n ≤ i) → zI q.2 293 i = zI m 293 i)) := by
  have e1 : zx (604 + 413 * (l : Int) + 1) = 604 + 413 * l + 1 := by show (_ : Int).toNat = _; omega
  have e2 : zx (604 + 413 * (l : Int) + 2) = 604 + 413 * l + 2 := by show (_ : Int).toNat = _; omega
  have e3 : zx (604 + 413 * (l : Int) + 3 + (f : Int)) = 604 + 413 * l + 3 + f := by show (_ : Int).toNat = _; omega
  unfold f7_types
  refine zok_gl ⟨by omega, by omega⟩ (zok_gl ⟨by omega, by omega⟩ (zok_gl ⟨by omega, by omega⟩ (zok_gd ⟨by omega, by rw [zl_m.1]; omega⟩ (zok_lt (zok_gl ⟨by omega, by omega⟩ (zok_gd ⟨by omega, by rw [zl_m.1]; omega⟩ ?_))))))
  rw [e1, e2, hc, hy]
  -- with what was typed
  have go : zok (f7_types_55 (l : Int) r (n : Int) (604 + 413 * (l : Int)) (f : Int) (h : Int) m) (fun q => (h + n > 40 → q = (false, m)) ∧ (h + n ≤ 40 → q.1 = true ∧ zSm (fun c => c ≠ 293) m q.2 ∧ zI q.2 293 (604 + 413 * l + 2) = zor y (zshl 1 (f : Nat)) ∧ zI q.2 293 (604 + 413 * l + 3 + f) = ((h + n : Nat) : Int) ∧ (∀ i, i < n → zI q.2 293 (604 + 413 * l + 13 + 40 * f + h + i) = zI m r i) ∧ ∀ i, i ≠ 604 + 413 * l + 2 → i ≠ 604 + 413 * l + 3 + f → (i < 604 + 413 * l + 13 + 40 * f + h ∨ 604 + 413 * l + 13 + 40 * f + h + n ≤ i) → zI q.2 293 i = zI m 293 i)) := by
    unfold f7_types_55
    refine zok_gl ⟨by omega, by omega⟩ (zok_if (fun h40 => ?_) (fun h40 => zok_some ⟨fun _ => rfl, fun q => by omega⟩))
    refine zok_x5 (fun (x4 x5 x6 x7 : Int) m1 => x4 = 604 + 413 * (l : Int) ∧ x5 = (f : Int) ∧ x6 = (h : Int) ∧ ∃ j : Nat, x7 = j ∧ j ≤ n ∧ zSm (fun c => c ≠ 293) m m1 ∧ (∀ i, i < j → zI m1 293 (604 + 413 * l + 13 + 40 * f + h + i) = zI m r i) ∧ ∀ i, (i < 604 + 413 * l + 13 + 40 * f + h ∨ 604 + 413 * l + 13 + 40 * f + h + j ≤ i) → zI m1 293 i = zI m 293 i) (fun _ _ _ x7 _ => 400 - x7.toNat) (fun kk x4 x5 x6 x7 m1 hx ih => ?_) zFu _ _ _ 0 m ⟨rfl, rfl, rfl, 0, rfl, by omega, zSm.rf, fun i hi => absurd hi (Nat.not_lt_zero i), fun _ _ => rfl⟩ (by show 400 - 0 < 100000; omega)
    obtain ⟨rfl, rfl, rfl, j, rfl, j1, j2, j3, j4⟩ := hx
    unfold f7_types_71
    refine zok_if (fun h9 => ?_) (fun h9 => ?_)
    · have hj : j = n := by omega
      subst hj
      refine zok_gl ⟨by omega, by omega⟩ (zok_gl ⟨by omega, by omega⟩ (zok_gl ⟨by omega, by omega⟩ (zok_gd ⟨by omega, by rw [zl_m.1]; omega⟩ (zok_lt (zok_gl ⟨by omega, by omega⟩ (zok_gd ⟨by omega, by rw [zl_m.1]; omega⟩ (zok_lt (zok_lt (zok_gd ⟨by omega, by rw [zl_m.1]; omega⟩ (zok_lt (zok_some ⟨fun q => by omega, fun _ => ⟨rfl, (j2.sI (fun q => q rfl)).sI (fun q => q rfl), ?_, ?_, fun i hi => ?_, fun i i1 i2 i3 => ?_⟩⟩)))))))))))
      · show zI (zsI (zsI m1 293 _ _) 293 _ _) 293 _ = _
        rw [e2, zI_eq rfl rfl, e3, zI_ni (by omega), j4 _ (by omega), hy]
      · show zI (zsI (zsI m1 293 _ _) 293 _ _) 293 _ = _
        rw [e2, zI_ni (by omega), zI_eq rfl e3.symm]; omega
      · show zI (zsI (zsI m1 293 _ _) 293 _ _) 293 _ = _
        rw [e2, zI_ni (by omega), e3, zI_ni (by omega)]; exact j3 i hi
      · show zI (zsI (zsI m1 293 _ _) 293 _ _) 293 _ = _
        rw [e2, zI_ni i1, e3, zI_ni i2]; exact j4 i i3
    · refine zok_gl ⟨by omega, by omega⟩ (zok_gl ⟨by omega, by omega⟩ (zok_gl ⟨by omega, by omega⟩ (zok_gl ⟨by omega, by omega⟩ (zok_gl ⟨by omega, by omega⟩ (zok_gd ⟨by omega, by omega⟩ (zok_gd ⟨by omega, by rw [zl_m.1]; omega⟩ (zok_lt (zok_gl ⟨by omega, by omega⟩ ?_))))))))
      rw [zx_nat, show zx (604 + 413 * (l : Int) + 13 + 40 * (f : Int) + (h : Int) + (j : Int)) = 604 + 413 * l + 13 + 40 * f + h + j from by show (_ : Int).toNat = _; omega, (j2 r hr j).1]
      refine ih _ _ _ _ _ ⟨rfl, rfl, rfl, j + 1, by omega, by omega, j2.sI (fun q => q rfl), fun i hi => ?_, fun i hi => (zI_ni (by omega)).trans (j4 i (by omega))⟩ (by show 400 - ((j : Int) + 1).toNat < 400 - (j : Int).toNat; omega)
      by_cases q : i = j
      · rw [zI_eq rfl (by omega), q]
      · rw [zI_ni (by omega)]; exact j3 i (by omega)
  refine zok_co (m_has y (f : Int) (by omega) (by omega)) (fun b hb => ?_)
  rw [show ((f : Int)).toNat = f from rfl] at hb
  subst hb
  cases hT : mbit y f with
  | false =>
    have h0 := hh2 hT
    rw [h0] at go ⊢
    exact zok_t rfl go
  | true =>
    refine zok_f (by decide) (zok_gl ⟨by omega, by omega⟩ (zok_gl ⟨by omega, by omega⟩ (zok_gd ⟨by omega, by rw [zl_m.1]; omega⟩ ?_)))
    rw [e3, hh1 hT]
    exact go
/-- one field of the row is written anew -/
theorem pMs_fld {x : List Int} {y : Int} (hs : wSt s) (hl : l < tD s) (hf : f < 10) (hp : pMs m 293 0 s) (h2 : zI m' 293 (604 + 413 * l + 2) = y) (h3 : zI m' 293 (604 + 413 * l + 3 + f) = (x.length : Int)) (h5 : ∀ i, i < x.length → zI m' 293 (604 + 413 * l + 13 + 40 * f + i) = x.getD i 0)
    (ho : ∀ i, i ≠ 604 + 413 * l + 2 → i ≠ 604 + 413 * l + 3 + f → (i < 604 + 413 * l + 13 + 40 * f ∨ 604 + 413 * l + 13 + 40 * f + 40 ≤ i) → zI m' 293 i = zI m 293 i) : pMs m' 293 0 (tO s, tD s, tS s, tC s, updI (tY s) l y, updX (tX s) l f x, tDoc s) := by
  obtain ⟨a1, a2, a3, a4, a5⟩ := hp
  obtain ⟨w1, w2, w3, w4⟩ := hs
  simp only [Nat.zero_add] at a1 a2 a3 a4 a5
  unfold pMs
  simp only [Nat.zero_add]
  refine ⟨(ho 0 (by omega) (by omega) (by omega)).trans a1, (ho 1 (by omega) (by omega) (by omega)).trans a2, (ho 2 (by omega) (by omega) (by omega)).trans a3, fun i hi => ?_, fun l' hl' => ?_⟩
  · have hi' : i < (tDoc s).length := hi
    exact (ho (4 + i) (by omega) (by omega) (by omega)).trans (a4 i hi)
  · have hl2 : l' < tD s := hl'
    obtain ⟨b1, b2, b3, b4⟩ := a5 l' hl2
    have ht := tri413 l' l
    refine ⟨(ho _ (by omega) (by omega) (by omega)).trans b1, (ho _ (by omega) (by omega) (by omega)).trans b2, ?_, fun g hg => ?_⟩
    · show zI m' 293 (604 + 413 * l' + 2) = if l' = l then y else tY s l'
      by_cases q : l' = l
      · rw [if_pos q, q]; exact h2
      · rw [if_neg q]; exact (ho _ (by omega) (by omega) (by omega)).trans b3
    · have hx := (w4 l' hl2).2.2.2.2 g hg
      have eX : tX (tO s, tD s, tS s, tC s, updI (tY s) l y, updX (tX s) l f x, tDoc s) l' g = if l' = l ∧ g = f then x else tX s l' g := rfl
      rw [eX]
      by_cases q : l' = l ∧ g = f
      · obtain ⟨q1, q2⟩ := q
        rw [if_pos ⟨q1, q2⟩, q1, q2]
        exact ⟨h3, h5⟩
      · rw [if_neg q]
        have hne : l' ≠ l ∨ g ≠ f := by omega
        have ht2 := tri40 g f
        exact ⟨(ho _ (by omega) (by omega) (by omega)).trans (b4 g hg).1, fun i hi => (ho _ (by omega) (by omega) (by omega)).trans ((b4 g hg).2 i hi)⟩
theorem b_types {r : Nat} {x : List Int} (hs : wSt s) (hl : l < tD s) (hf : f < 10) (hc : tC s l = (f : Nat)) (hp : pMs m 293 0 s) (hn : x.length ≤ 400) (hr : r ≠ 293) (hrl : x.length ≤ zln r) (hrow : ∀ i, i < x.length → zI m r i = x.getD i 0) : zok (f7_types (l : Int) r (x.length : Int) m) (fun q => ((tX s l f).length + x.length > 40 → q = (false, m)) ∧ ((tX s l f).length + x.length ≤ 40 → q.1 = true ∧ zSm (fun c => c ≠ 293) m q.2 ∧ pMs q.2 293 0 (stType s l f (tX s l f ++ x)))) := by
  have hd := hs.2.1
  have hx := (hs.2.2.2 l hl).2.2.2.2 f hf
  obtain ⟨b1, b2, b3, b4⟩ := hp.2.2.2.2 l hl
  simp only [Nat.zero_add] at b1 b2 b3 b4
  refine zok_mono (b_typesR (y := tY s l) (h := (tX s l f).length) (by omega) hf (b2.trans hc) b3 (fun _ => (b4 f hf).1) (fun h => by rw [hx.2 h]; rfl) hx.1 hn hr hrl) (fun q hq => ⟨hq.1, fun h40 => ?_⟩)
  obtain ⟨g1, g2, g3, g4, g5, g6⟩ := hq.2 h40
  refine ⟨g1, g2, pMs_fld hs hl hf hp g3 (by rw [g4, List.length_append]) (fun i hi => ?_) (fun i i1 i2 i3 => g6 i i1 i2 (by omega))⟩
  rw [List.length_append] at hi
  rw [gd_app]
  by_cases e : i < (tX s l f).length
  · rw [if_pos e, g6 _ (by omega) (by omega) (by omega)]; exact (b4 f hf).2 i e
  · rw [if_neg e]
    have := g5 (i - (tX s l f).length) (by omega)
    rw [show 604 + 413 * l + 13 + 40 * f + (tX s l f).length + (i - (tX s l f).length) = 604 + 413 * l + 13 + 40 * f + i by omega] at this
    rw [this]; exact hrow _ (by omega)
theorem mLk.j (hk : mLk L s l m) (h : mJ (hS L s l) (hT s l) (hN s l) m m') : mLk L s l m' := by
  obtain ⟨b, k, h1, h2, h3, h4, h5, h6⟩ := hk
  exact ⟨b, k, h.cx h1, h.sh h2, h.2, fun f hf => ((h.1 335 (by decide) f).1).trans (h4 f hf), fun f hf ht => ⟨((h.1 293 (by decide) _).1).trans (h5 f hf ht).1, fun i hi => ((h.1 293 (by decide) _).1).trans ((h5 f hf ht).2 i hi)⟩, ((h.1 293 (by decide) 1).1).trans h6⟩
/-- whether the TEXT is too long -/
theorem b_tooLong (hX : rX A m) (hA : (aN A ≤ 8 ∧ ∀ k, k < aN A → wS (aL A k))) (hp : pMs m 293 0 s) (hs : wSt s) (hl : l < tD s) (hk : 0 ≤ tS s l ∧ tS s l < aN A) : zok (f7_isTooLong (l : Int) m) (fun q => q.1 = decide (hTL (aL A) s l > 400) ∧ mScr m q.2 ∧ mLk (aL A) s l q.2) := by
  unfold f7_isTooLong
  refine zok_cm (m_lays hX.1 hA.1 hA.2 hp hs hl hk) (fun m1 h1 => zok_cl (k_textLength hs hl h1.1) (fun r m2 h2 => ?_))
  have hr : r = ((min (hTL (aL A) s l) 100000 : Nat) : Int) := h2.1
  subst hr
  refine zok_if (fun h => zok_some ⟨(decide_eq_false (by omega)).symm, h1.2.tr h2.2.1, h1.1.j h2.2.2⟩) (fun h => zok_some ⟨(decide_eq_true (by omega)).symm, h1.2.tr h2.2.1, h1.1.j h2.2.2⟩)
theorem pMs_dep {d : Nat} (hd : d ≤ tD s) (h : pMs m 293 0 s) : pMs (zsI m 293 0 (d : Nat)) 293 0 (stDep s d) := by
  obtain ⟨a1, a2, a3, a4, a5⟩ := h
  have hlt : ∀ l, l < tD (stDep s d) → l < tD s := fun l hl => Nat.lt_of_lt_of_le hl hd
  exact ⟨zI_eq rfl rfl, (zI_ni (by decide)).trans a2, (zI_ni (by decide)).trans a3, fun i hi => (zI_ni (by omega)).trans (a4 i hi), fun l hl => ⟨(zI_ni (by omega)).trans (a5 l (hlt l hl)).1, (zI_ni (by omega)).trans (a5 l (hlt l hl)).2.1, (zI_ni (by omega)).trans (a5 l (hlt l hl)).2.2.1, fun f hf => ⟨(zI_ni (by omega)).trans ((a5 l (hlt l hl)).2.2.2 f hf).1, fun i hi => (zI_ni (by omega)).trans (((a5 l (hlt l hl)).2.2.2 f hf).2 i hi)⟩⟩⟩
theorem pMs_cur {v : Int} (hs : wSt s) (hl : l < tD s) (h : pMs m 293 0 s) : pMs (zsI m 293 (604 + 413 * l + 1) v) 293 0 (stCur s l v) := by
  obtain ⟨a1, a2, a3, a4, a5⟩ := h
  obtain ⟨w1, w2, w3, w4⟩ := hs
  refine ⟨(zI_ni (by omega)).trans a1, (zI_ni (by omega)).trans a2, (zI_ni (by omega)).trans a3, fun i hi => (zI_ni (by have hi' : i < (tDoc s).length := hi; omega)).trans (a4 i hi), fun l' hl' => ?_⟩
  have hl2 : l' < tD s := hl'
  obtain ⟨b1, b2, b3, b4⟩ := a5 l' hl2
  have ht := tri413 l' l
  refine ⟨(zI_ni (by omega)).trans b1, ?_, (zI_ni (by omega)).trans b3, fun g hg => ?_⟩
  · show _ = if l' = l then v else tC s l'
    by_cases q : l' = l
    · rw [if_pos q, zI_eq rfl (by omega)]
    · rw [if_neg q, zI_ni (by omega)]; exact b2
  · have hx := (w4 l' hl2).2.2.2.2 g hg
    exact ⟨(zI_ni (by omega)).trans (b4 g hg).1, fun i hi => (zI_ni (by have hi' : i < (tX s l' g).length := hi; have hg' : g < 10 := hg; omega)).trans ((b4 g hg).2 i hi)⟩
end mAct
