/-! THE REFERENCE'S ORDER OF LEAVING: by keys -/
def fsF (S : zSn) (ty : Nat → Bool) (f : Nat) : Nat → Int
  | 0 => -1
  | k + 1 => if fsF S ty f k = -1 then (if vSh S ty k = true ∧ sF S k = f then (k : Int) else -1) else fsF S ty f k
def kyO (S : zSn) (ty : Nat → Bool) (o : Int) (f : Nat) : Int := if f = 0 then 1000 else if o = 1 then fsF S ty f (sN S) else f
theorem fsF_spec (S : zSn) (ty : Nat → Bool) (f : Nat) : ∀ k, (fsF S ty f k = -1 ∧ ∀ j, j < k → ¬ (vSh S ty j = true ∧ sF S j = f)) ∨ ∃ j : Nat, fsF S ty f k = j ∧ j < k ∧ vSh S ty j = true ∧ sF S j = f ∧ ∀ i, i < j → ¬ (vSh S ty i = true ∧ sF S i = f) := by
  intro k
  induction k with
  | zero => exact Or.inl ⟨rfl, fun j hj => absurd hj (Nat.not_lt_zero j)⟩
  | succ k ih =>
    have e : fsF S ty f (k + 1) = if fsF S ty f k = -1 then (if vSh S ty k = true ∧ sF S k = f then (k : Int) else -1) else fsF S ty f k := rfl
    rw [e]
    rcases ih with ⟨h1, h2⟩ | ⟨j, h1, h2, h3, h4, h5⟩
    · rw [if_pos h1]
      by_cases e2 : vSh S ty k = true ∧ sF S k = f
      · rw [if_pos e2]
        exact Or.inr ⟨k, rfl, by omega, e2.1, e2.2, h2⟩
      · rw [if_neg e2]
        exact Or.inl ⟨rfl, fun j hj => by
          by_cases e3 : j = k
          · rw [e3]; exact e2
          · exact h2 j (by omega)⟩
    · rw [if_neg (by omega)]
      exact Or.inr ⟨j, h1, by omega, h3, h4, h5⟩
theorem fsF_at {S : zSn} {ty : Nat → Bool} {f j n : Nat} (hj : j < n) (h1 : vSh S ty j = true) (h2 : sF S j = f) (h3 : ∀ i, i < j → ¬ (vSh S ty i = true ∧ sF S i = f)) : fsF S ty f n = j := by
  rcases fsF_spec S ty f n with ⟨g1, g2⟩ | ⟨i, g1, g2, g3, g4, g5⟩
  · exact absurd ⟨h1, h2⟩ (g2 j hj)
  · rcases Nat.lt_trichotomy i j with h | h | h
    · exact absurd ⟨g3, g4⟩ (h3 i h)
    · rw [g1, h]
    · exact absurd ⟨h1, h2⟩ (g5 j h)
theorem live_fs {S : zSn} {ty : Nat → Bool} {f : Nat} (h : vLv S ty f = true) : ∃ j : Nat, fsF S ty f (sN S) = j ∧ j < sN S ∧ sF S j = f := by
  obtain ⟨o, h1, h2, h3⟩ := of_decide_eq_true h
  rcases fsF_spec S ty f (sN S) with ⟨g1, g2⟩ | ⟨i, g1, g2, g3, g4, g5⟩
  · exact absurd ⟨h2, h3⟩ (g2 o h1)
  · exact ⟨i, g1, g2, g4⟩
theorem kyO_inj {S : zSn} (hW : wS S) {ty : Nat → Bool} (o : Int) {f g : Nat} (hf : f < 10) (hg : g < 10) (lf : vLv S ty f = true) (lg : vLv S ty g = true) (h : kyO S ty o f = kyO S ty o g) : f = g := by
  have hn := hW.1
  obtain ⟨i, i1, i2, i3⟩ := live_fs lf
  obtain ⟨j, j1, j2, j3⟩ := live_fs lg
  unfold kyO at h
  by_cases e1 : f = 0
  · by_cases e2 : g = 0
    · omega
    · rw [if_pos e1, if_neg e2] at h
      by_cases e3 : o = 1
      · rw [if_pos e3] at h; omega
      · rw [if_neg e3] at h; omega
  · by_cases e2 : g = 0
    · rw [if_neg e1, if_pos e2] at h
      by_cases e3 : o = 1
      · rw [if_pos e3] at h; omega
      · rw [if_neg e3] at h; omega
    · rw [if_neg e1, if_neg e2] at h
      by_cases e3 : o = 1
      · rw [if_pos e3, if_pos e3] at h
        have : i = j := by omega
        rw [this] at i3; omega
      · rw [if_neg e3, if_neg e3] at h; omega
theorem ordP_mem {S : zSn} (hW : wS S) (ty : Nat → Bool) : ∀ k, k ≤ sN S → ∀ x, x ∈ ordP S ty k ↔ (x ≠ 0 ∧ ∃ j, j < k ∧ vSh S ty j = true ∧ sF S j = (x : Nat)) := by
  intro k
  induction k with
  | zero => exact fun _ x => ⟨fun h => absurd h List.not_mem_nil, fun ⟨_, j, hj, _⟩ => absurd hj (Nat.not_lt_zero j)⟩
  | succ k ih =>
    intro hk x
    have e0 : ordP S ty (k + 1) = if vSh S ty k = true ∧ sF S k ≠ 0 ∧ (sF S k).toNat ∉ ordP S ty k then ordP S ty k ++ [(sF S k).toNat] else ordP S ty k := rfl
    obtain ⟨f1, f2, -⟩ := hW.2.2.2.1 k (by omega)
    have ih := ih (by omega)
    rw [e0]
    by_cases e : vSh S ty k = true ∧ sF S k ≠ 0 ∧ (sF S k).toNat ∉ ordP S ty k
    · rw [if_pos e, List.mem_append, List.mem_singleton, ih]
      constructor
      · rintro (⟨h1, j, h2, h3, h4⟩ | h)
        · exact ⟨h1, j, by omega, h3, h4⟩
        · exact ⟨by omega, k, by omega, e.1, by omega⟩
      · rintro ⟨h1, j, h2, h3, h4⟩
        by_cases e2 : j = k
        · right; rw [e2] at h4; omega
        · left; exact ⟨h1, j, by omega, h3, h4⟩
    · rw [if_neg e, ih]
      constructor
      · rintro ⟨h1, j, h2, h3, h4⟩; exact ⟨h1, j, by omega, h3, h4⟩
      · rintro ⟨h1, j, h2, h3, h4⟩
        by_cases e2 : j = k
        · rw [e2] at h3 h4
          have h5 : (sF S k).toNat ∈ ordP S ty k := by
            rcases Classical.em ((sF S k).toNat ∈ ordP S ty k) with h | h
            · exact h
            · exact absurd ⟨h3, by omega, h⟩ e
          rw [ih] at h5
          rw [show (sF S k).toNat = x by omega] at h5
          exact h5
        · exact ⟨h1, j, by omega, h3, h4⟩
theorem ordP_srt {S : zSn} (hW : wS S) (ty : Nat → Bool) : ∀ k, k ≤ sN S → (ordP S ty k).Pairwise (fun a c => fsF S ty a (sN S) < fsF S ty c (sN S)) ∧ ∀ x ∈ ordP S ty k, fsF S ty x (sN S) < k := by
  intro k
  induction k with
  | zero => exact fun _ => ⟨List.Pairwise.nil, fun x h => absurd h List.not_mem_nil⟩
  | succ k ih =>
    intro hk
    obtain ⟨i1, i2⟩ := ih (by omega)
    have e0 : ordP S ty (k + 1) = if vSh S ty k = true ∧ sF S k ≠ 0 ∧ (sF S k).toNat ∉ ordP S ty k then ordP S ty k ++ [(sF S k).toNat] else ordP S ty k := rfl
    obtain ⟨f1, f2, -⟩ := hW.2.2.2.1 k (by omega)
    rw [e0]
    by_cases e : vSh S ty k = true ∧ sF S k ≠ 0 ∧ (sF S k).toNat ∉ ordP S ty k
    · rw [if_pos e]
      have hv : fsF S ty (sF S k).toNat (sN S) = (k : Int) := by
        refine fsF_at (by omega) e.1 (by omega) (fun i hi hh => e.2.2 ?_)
        rw [ordP_mem hW ty k (by omega)]
        exact ⟨by omega, i, hi, hh.1, hh.2⟩
      refine ⟨List.pairwise_append.mpr ⟨i1, List.pairwise_singleton _ _, fun a ha c hc => ?_⟩, fun x hx => ?_⟩
      · rw [List.mem_singleton.mp hc, hv]; exact i2 a ha
      · rcases List.mem_append.mp hx with h | h
        · have := i2 x h; omega
        · rw [List.mem_singleton.mp h, hv]; omega
    · rw [if_neg e]
      exact ⟨i1, fun x hx => by have := i2 x hx; omega⟩
theorem ordN_mem (S : zSn) (ty : Nat → Bool) : ∀ k x, x ∈ ordN S ty k ↔ (x ≠ 0 ∧ x < k ∧ vLv S ty x = true) := by
  intro k
  induction k with
  | zero => exact fun x => ⟨fun h => absurd h List.not_mem_nil, fun ⟨_, h, _⟩ => absurd h (Nat.not_lt_zero x)⟩
  | succ k ih =>
    intro x
    have e0 : ordN S ty (k + 1) = if k ≠ 0 ∧ vLv S ty k = true then ordN S ty k ++ [k] else ordN S ty k := rfl
    rw [e0]
    by_cases e : k ≠ 0 ∧ vLv S ty k = true
    · rw [if_pos e, List.mem_append, List.mem_singleton, ih]
      constructor
      · rintro (⟨h1, h2, h3⟩ | h)
        · exact ⟨h1, by omega, h3⟩
        · rw [h]; exact ⟨e.1, by omega, e.2⟩
      · rintro ⟨h1, h2, h3⟩
        by_cases e2 : x = k
        · exact Or.inr e2
        · exact Or.inl ⟨h1, by omega, h3⟩
    · rw [if_neg e, ih]
      constructor
      · rintro ⟨h1, h2, h3⟩; exact ⟨h1, by omega, h3⟩
      · rintro ⟨h1, h2, h3⟩
        by_cases e2 : x = k
        · rw [e2] at h1 h3; exact absurd ⟨h1, h3⟩ e
        · exact ⟨h1, by omega, h3⟩
theorem ordN_srt (S : zSn) (ty : Nat → Bool) : ∀ k, (ordN S ty k).Pairwise (fun a c => a < c) := by
  intro k
  induction k with
  | zero => exact List.Pairwise.nil
  | succ k ih =>
    have e0 : ordN S ty (k + 1) = if k ≠ 0 ∧ vLv S ty k = true then ordN S ty k ++ [k] else ordN S ty k := rfl
    rw [e0]
    by_cases e : k ≠ 0 ∧ vLv S ty k = true
    · rw [if_pos e]
      refine List.pairwise_append.mpr ⟨ih, List.pairwise_singleton _ _, fun a ha c hc => ?_⟩
      rw [List.mem_singleton.mp hc]
      exact ((ordN_mem S ty k a).mp ha).2.1
    · rw [if_neg e]; exact ih
theorem vLv_lt {S : zSn} (hW : wS S) {ty : Nat → Bool} {f : Nat} (h : vLv S ty f = true) : f < 10 := by
  obtain ⟨o, h1, h2, h3⟩ := of_decide_eq_true h
  have := hW.2.2.2.1 o h1
  omega
theorem vOrd_mem {S : zSn} (hW : wS S) (ty : Nat → Bool) (o : Int) (x : Nat) : x ∈ vOrd S ty o ↔ vLv S ty x = true := by
  unfold vOrd
  have h0 : x ∈ (if vLv S ty 0 = true then [0] else []) ↔ x = 0 ∧ vLv S ty x = true := by
    by_cases e : vLv S ty 0 = true
    · rw [if_pos e, List.mem_singleton]
      exact ⟨fun h => ⟨h, by rw [h]; exact e⟩, fun h => h.1⟩
    · rw [if_neg e]
      exact ⟨fun h => absurd h List.not_mem_nil, fun h => absurd (by rw [← h.1]; exact h.2) e⟩
  rw [List.mem_append, h0]
  by_cases eo : o = 0
  · rw [if_pos eo, ordN_mem]
    constructor
    · rintro (h | h)
      · exact h.2.2
      · exact h.2
    · intro h
      by_cases e : x = 0
      · exact Or.inr ⟨e, h⟩
      · exact Or.inl ⟨e, vLv_lt hW h, h⟩
  · rw [if_neg eo, ordP_mem hW ty _ (Nat.le_refl _)]
    constructor
    · rintro (⟨h1, j, h2⟩ | h)
      · exact decide_eq_true ⟨j, h2⟩
      · exact h.2
    · intro h
      by_cases e : x = 0
      · exact Or.inr ⟨e, h⟩
      · obtain ⟨j, hj⟩ := of_decide_eq_true h
        exact Or.inl ⟨e, j, hj⟩
theorem vOrd_srt {S : zSn} (hW : wS S) (ty : Nat → Bool) {o : Int} (ho : o = 0 ∨ o = 1) : (vOrd S ty o).Pairwise (fun a c => kyO S ty o a < kyO S ty o c) := by
  have hn := hW.1
  unfold vOrd
  have h0 : (if vLv S ty 0 = true then [0] else [] : List Nat).Pairwise (fun a c => kyO S ty o a < kyO S ty o c) := by
    split
    · exact List.pairwise_singleton _ _
    · exact List.Pairwise.nil
  have hz : ∀ c ∈ (if vLv S ty 0 = true then [0] else [] : List Nat), c = 0 := by
    intro c hc
    split at hc
    · exact List.mem_singleton.mp hc
    · exact absurd hc List.not_mem_nil
  rcases ho with rfl | rfl
  · rw [if_pos rfl]
    refine List.pairwise_append.mpr ⟨(ordN_srt S ty 10).imp_of_mem (fun {a c} ha hc hac => ?_), h0, fun a ha c hc => ?_⟩
    · have h1 := (ordN_mem S ty 10 a).mp ha
      have h2 := (ordN_mem S ty 10 c).mp hc
      unfold kyO
      rw [if_neg h1.1, if_neg (by decide), if_neg h2.1, if_neg (by decide)]
      omega
    · have h1 := (ordN_mem S ty 10 a).mp ha
      rw [hz c hc]
      unfold kyO
      rw [if_neg h1.1, if_neg (by decide), if_pos rfl]
      omega
  · rw [if_neg (by decide)]
    refine List.pairwise_append.mpr ⟨(ordP_srt hW ty (sN S) (Nat.le_refl _)).1.imp_of_mem (fun {a c} ha hc hac => ?_), h0, fun a ha c hc => ?_⟩
    · have h1 := (ordP_mem hW ty (sN S) (Nat.le_refl _) a).mp ha
      have h2 := (ordP_mem hW ty (sN S) (Nat.le_refl _) c).mp hc
      unfold kyO
      rw [if_neg h1.1, if_pos rfl, if_neg h2.1, if_pos rfl]
      exact hac
    · have h1 := (ordP_mem hW ty (sN S) (Nat.le_refl _) a).mp ha
      have h2 := (ordP_srt hW ty (sN S) (Nat.le_refl _)).2 a ha
      rw [hz c hc]
      unfold kyO
      rw [if_neg h1.1, if_pos rfl, if_pos rfl]
      omega
theorem srt_uniq {key : Nat → Int} : ∀ l1 l2 : List Nat, l1.Pairwise (fun a c => key a < key c) → l2.Pairwise (fun a c => key a < key c) → (∀ x, x ∈ l1 ↔ x ∈ l2) → l1 = l2 := by
  intro l1
  induction l1 with
  | nil =>
    intro l2 _ _ h
    cases l2 with
    | nil => rfl
    | cons c l2 => exact absurd ((h c).mpr List.mem_cons_self) List.not_mem_nil
  | cons a l1 ih =>
    intro l2 h1 h2 h
    cases l2 with
    | nil => exact absurd ((h a).mp List.mem_cons_self) List.not_mem_nil
    | cons c l2 =>
      have p1 := List.pairwise_cons.mp h1
      have p2 := List.pairwise_cons.mp h2
      have e : a = c := by
        rcases List.mem_cons.mp ((h a).mp List.mem_cons_self) with g | g
        · exact g
        · rcases List.mem_cons.mp ((h c).mpr List.mem_cons_self) with g2 | g2
          · exact g2.symm
          · have := p2.1 a g
            have := p1.1 c g2
            omega
      subst e
      congr 1
      refine ih l2 p1.2 p2.2 (fun x => ⟨fun hx => ?_, fun hx => ?_⟩)
      · rcases List.mem_cons.mp ((h x).mp (List.mem_cons_of_mem _ hx)) with g | g
        · have := p1.1 x hx; rw [g] at this; omega
        · exact g
      · rcases List.mem_cons.mp ((h x).mpr (List.mem_cons_of_mem _ hx)) with g | g
        · have := p2.1 x hx; rw [g] at this; omega
        · exact g
theorem gdN_app (l1 l2 : List Nat) (i : Nat) : (l1 ++ l2).getD i 0 = if i < l1.length then l1.getD i 0 else l2.getD (i - l1.length) 0 := by
  rw [List.getD_eq_getElem?_getD, List.getElem?_append]
  by_cases h : i < l1.length
  · rw [if_pos h, if_pos h, List.getD_eq_getElem?_getD]
  · rw [if_neg h, if_neg h, List.getD_eq_getElem?_getD]
def mOl (l : List Nat) (m : zM) : Prop := zI m 292 33 = l.length ∧ ∀ i, i < l.length → zI m 336 i = (l.getD i 0 : Nat)
def mFrO (μ m : zM) : Prop := zSm (fun c => c ≠ 292 ∧ c ≠ 336) μ m ∧ (∀ i, zR m 292 i = zR μ 292 i) ∧ ∀ i, i ≠ 33 → zI m 292 i = zI μ 292 i
section mLeav
variable {μ0 m : zM} {b k : Nat} {S : zSn} {ty : Nat → Bool} {sa o : Int} {Q : zM → Prop}
theorem mFrO.cx (h : mFrO μ0 m) (hC : mCx μ0 b k S ty sa) : mCx m b k S ty sa := hC.keep (h.1.mono (fun c hc => by omega)) (h.2.1 8) (h.2.2 21 (by decide)) (h.2.2 22 (by decide))
theorem mFrO.sh (h : mFrO μ0 m) (hV : mShown S ty μ0) : mShown S ty m := by
  obtain ⟨a1, a2, a3, a4⟩ := hV
  refine ⟨fun o ho => ?_, fun f hf => ?_, ?_, fun i hi => ?_⟩
  · rw [(h.1 329 (by decide) o).1, (h.1 330 (by decide) o).1]; exact a1 o ho
  · rw [(h.1 331 (by decide) f).1]; exact a2 f hf
  · rw [h.2.2 27 (by decide)]; exact a3
  · rw [h.2.2 27 (by decide)]; exact a4 i hi
theorem m_firstShown (hC : mCx m b k S ty sa) (hV : mShown S ty m) {f : Nat} : zok (f7_firstShown (f : Int) m) (fun r => r = fsF S ty f (sN S)) := by
  have hC' := hC
  obtain ⟨c1, c2, c3, c4, c5, c6, c7, c8⟩ := hC'
  obtain ⟨b1, b2, b3, b4, b5, b6, b7, b8, b9, b10, b11, b12, b13⟩ := okB_f c1
  have hn := c8.1
  unfold f7_firstShown
  refine zok_x1 (fun (x2 : Int) => ∃ j : Nat, x2 = j ∧ j ≤ sN S ∧ fsF S ty f j = -1) (fun x2 => 60 - x2.toNat) (fun kk x2 hx ih => ?_) zFu 0 ⟨0, rfl, by omega, rfl⟩ (by show 60 - 0 < 100000; omega)
  obtain ⟨j, rfl, h1, h2⟩ := hx
  unfold f7_firstShown_2
  refine zok_co (m_many hC) (fun r hr => ?_)
  subst hr
  refine zok_if (fun h9 => zok_some ?_) (fun h9 => zok_gd ⟨by omega, by rw [zl_m.2.2.2.2.2.2.2.2.1]; omega⟩ ?_)
  · rw [show sN S = j by omega]; exact h2.symm
  · have hj : j < sN S := by omega
    have e : fsF S ty f (j + 1) = if vSh S ty j = true ∧ sF S j = f then (j : Int) else -1 := by
      show (if fsF S ty f j = -1 then _ else _) = _
      rw [if_pos h2]
    have nx : ¬ (vSh S ty j = true ∧ sF S j = f) → zok (zgl ((j : Int) + 1) (fun v => kk v)) (fun r => r = fsF S ty f (sN S)) := fun hno => zok_gl ⟨by omega, by omega⟩ (ih _ ⟨j + 1, by omega, by omega, by rw [e, if_neg hno]⟩ (by show 60 - ((j : Int) + 1).toNat < 60 - (j : Int).toNat; omega))
    rw [zx_nat, (hV.1 j hj).1]
    cases hs : vSh S ty j with
    | false => exact zok_t rfl (nx (by rw [hs]; simp))
    | true =>
      refine zok_f (by decide) (zok_co (m_of hC (show j < 60 by omega)) (fun r hr => ?_))
      subst hr
      rw [c3, b6, zx_nat, (c7.2.2.2.1 j hj).1]
      refine zok_gd ⟨by omega, by omega⟩ (zok_if (fun h8 => zok_some ?_) (fun h8 => nx (fun q => h8 q.2)))
      rcases fsF_spec S ty f j with ⟨g1, g2⟩ | ⟨i, g1, -⟩
      · exact (fsF_at hj hs h8 g2).symm
      · omega
theorem m_keyOf (hC : mCx m b k S ty sa) (hV : mShown S ty m) (ho : zI m 293 1 = o) {f : Nat} : zok (f7_keyOf (f : Int) m) (fun r => r = kyO S ty o f) := by
  unfold f7_keyOf
  refine zok_if (fun h => zok_some ?_) (fun h => zok_gd ⟨by decide, by rw [zl_m.1]; decide⟩ ?_)
  · unfold kyO; rw [if_pos (by omega)]
  · rw [show zx 1 = 1 from rfl, ho]
    refine zok_if (fun h1 => zok_co (m_firstShown hC hV) (fun r hr => zok_some ?_)) (fun h1 => zok_some ?_)
    · unfold kyO; rw [if_neg (by omega), if_pos h1]; exact hr
    · unfold kyO; rw [if_neg (by omega), if_neg h1]
theorem m_ins (hC : mCx μ0 b k S ty sa) (hV : mShown S ty μ0) (ho : zI μ0 293 1 = o) {f : Nat} (hf : f < 10) (hlive : vLv S ty f = true) {L : List Nat} (hs : L.Pairwise (fun a c => kyO S ty o a < kyO S ty o c)) (hmem : ∀ x ∈ L, x < f ∧ vLv S ty x = true) (hlen : L.length ≤ f) {kk : Int → zM → Option zM}
    (cont : ∀ m' L', mFrO μ0 m' → L'.Pairwise (fun a c => kyO S ty o a < kyO S ty o c) → (∀ x, x ∈ L' ↔ x ∈ L ∨ x = f) → L'.length = L.length + 1 → mOl L' m' → zok (kk ((f : Int) + 1) m') Q) (hF : mFrO μ0 m) (hO : mOl L m) : zok (zfx (f7_laysLeaving_32 kk) (fun _ _ _ => none) zFu (f : Int) (zI m 292 33) m) Q := by
  refine zok_x3 (fun (x1 x2 : Int) m => x1 = (f : Int) ∧ ∃ A B : List Nat, L = A ++ B ∧ x2 = (A.length : Nat) ∧ mFrO μ0 m ∧ zI m 292 33 = (L.length : Nat) ∧ (∀ i, i < A.length → zI m 336 i = (A.getD i 0 : Nat)) ∧ (∀ i, i < B.length → zI m 336 (A.length + 1 + i) = (B.getD i 0 : Nat)) ∧ ∀ y ∈ B, kyO S ty o f < kyO S ty o y) (fun _ x2 _ => x2.toNat) (fun k2 x1 x2 m hx ih => ?_) zFu _ _ m ⟨rfl, L, [], by simp, hO.1, hF, hO.1, hO.2, fun i hi => absurd hi (Nat.not_lt_zero i), fun y hy => absurd hy List.not_mem_nil⟩ (by rw [hO.1]; show ((L.length : Nat) : Int).toNat < 100000; omega)
  obtain ⟨rfl, A, B, rfl, rfl, hF, h33, hA, hB, hky⟩ := hx
  have hAB := List.pairwise_append.mp hs
  rw [List.length_append] at hlen h33
  -- the field comes in here
  have put : (∀ a ∈ A, kyO S ty o a < kyO S ty o f) → zok (f7_laysLeaving_76 kk (f : Int) (A.length : Nat) m) Q := by
    intro hlt
    unfold f7_laysLeaving_76
    refine zok_gd ⟨by omega, by rw [zl_m2.2.2.2.2.2.1]; omega⟩ (zok_lt ?_)
    rw [zI_nk (by decide), h33, zx_nat]
    refine zok_gl ⟨by omega, by omega⟩ (zok_lt (zok_gl ⟨by omega, by omega⟩ (cont _ (A ++ f :: B) ⟨(hF.1.sI (fun q => q.2 rfl)).sI (fun q => q.1 rfl), fun i => hF.2.1 i, fun i hi => (zI_ni hi).trans ((zI_nk (by decide)).trans (hF.2.2 i hi))⟩ ?_ (fun x => ?_) ?_ ⟨?_, fun i hi => ?_⟩)))
    · refine List.pairwise_append.mpr ⟨hAB.1, List.pairwise_cons.mpr ⟨hky, hAB.2.1⟩, fun a ha c hc => ?_⟩
      rcases List.mem_cons.mp hc with h | h
      · rw [h]; exact hlt a ha
      · exact hAB.2.2 a ha c h
    · rw [List.mem_append, List.mem_append, List.mem_cons]
      constructor
      · rintro (h | h | h)
        · exact Or.inl (Or.inl h)
        · exact Or.inr h
        · exact Or.inl (Or.inr h)
      · rintro ((h | h) | h)
        · exact Or.inl h
        · exact Or.inr (Or.inr h)
        · exact Or.inr (Or.inl h)
    · rw [List.length_append, List.length_append, List.length_cons]; omega
    · rw [zI_eq rfl rfl, List.length_append, List.length_cons]; omega
    · rw [List.length_append, List.length_cons] at hi
      rw [zI_nk (by decide), gdN_app]
      by_cases e : i < A.length
      · rw [if_pos e, zI_ni (by omega)]; exact hA i e
      · rw [if_neg e]
        by_cases e2 : i = A.length
        · rw [zI_eq rfl e2, e2, Nat.sub_self]; rfl
        · rw [zI_ni e2, show i - A.length = (i - A.length - 1) + 1 by omega]
          show _ = ((B.getD (i - A.length - 1) 0 : Nat) : Int)
          rw [← hB (i - A.length - 1) (by omega), show A.length + 1 + (i - A.length - 1) = i by omega]
  unfold f7_laysLeaving_32
  rcases List.eq_nil_or_concat A with hnil | ⟨A', a, hcon⟩
  · refine zok_t (by rw [hnil]; decide) (put (fun x hx => ?_))
    rw [hnil] at hx; exact absurd hx List.not_mem_nil
  · rw [List.concat_eq_append] at hcon
    have hAl : A.length = A'.length + 1 := by rw [hcon, List.length_append]; rfl
    have haA : a ∈ A := by rw [hcon]; exact List.mem_append_right _ (List.mem_singleton.mpr rfl)
    have hga : A.getD A'.length 0 = a := by rw [hcon, gdN_app, if_neg (Nat.lt_irrefl _), Nat.sub_self]; rfl
    have ham := hmem a (List.mem_append_left _ haA)
    refine zok_f (by omega) (zok_gl ⟨by omega, by omega⟩ (zok_gd ⟨by omega, by rw [zl_m2.2.2.2.2.2.1]; omega⟩ ?_))
    rw [show zx (((A.length : Nat) : Int) - 1) = A'.length from by show (((A.length : Nat) : Int) - 1).toNat = _; omega, hA _ (by omega), hga]
    refine zok_co (m_keyOf (hF.cx hC) (hF.sh hV) ((hF.1 293 (by decide) 1).1.trans ho)) (fun r hr => zok_co (m_keyOf (hF.cx hC) (hF.sh hV) ((hF.1 293 (by decide) 1).1.trans ho)) (fun r2 hr2 => ?_))
    subst hr
    subst hr2
    refine zok_if (fun hle => put (fun x hx => ?_)) (fun hgt => ?_)
    · have hne : kyO S ty o a ≠ kyO S ty o f := fun h => by
        have := kyO_inj hC.2.2.2.2.2.2.2 o (by omega) hf ham.2 hlive h
        omega
      rw [hcon] at hx hAB
      rcases List.mem_append.mp hx with h | h
      · have := (List.pairwise_append.mp hAB.1).2.2 x h a (List.mem_singleton.mpr rfl)
        omega
      · rw [List.mem_singleton.mp h]; omega
    · refine zok_gl ⟨by omega, by omega⟩ (zok_gd ⟨by omega, by rw [zl_m2.2.2.2.2.2.1]; omega⟩ (zok_gd ⟨by omega, by rw [zl_m2.2.2.2.2.2.1]; omega⟩ (zok_lt (zok_gl ⟨by omega, by omega⟩ (ih _ _ _ ⟨rfl, A', a :: B, by rw [hcon, List.append_assoc]; rfl, by omega, ⟨hF.1.sI (fun q => q.2 rfl), fun i => hF.2.1 i, fun i hi => (zI_nk (by decide)).trans (hF.2.2 i hi)⟩, ?_, fun i hi => ?_, fun i hi => ?_, fun y hy => ?_⟩ (by show (((A.length : Nat) : Int) + -1).toNat < ((A.length : Nat) : Int).toNat; omega))))))
      · rw [zI_nk (by decide), h33, List.length_append]
      · rw [zI_ni (by rw [zx_nat]; omega), hA i (by omega), hcon, gdN_app, if_pos hi]
      · rw [List.length_cons] at hi
        by_cases e : i = 0
        · rw [e, zI_eq rfl (by rw [zx_nat]; omega), show zx (((A.length : Nat) : Int) - 1) = A'.length from by show (((A.length : Nat) : Int) - 1).toNat = _; omega, hA _ (by omega), hga]; rfl
        · rw [zI_ni (by rw [zx_nat]; omega), show A'.length + 1 + i = A.length + 1 + (i - 1) by omega, hB (i - 1) (by omega), show i = (i - 1) + 1 by omega]; rfl
      · rcases List.mem_cons.mp hy with h | h
        · rw [h]; omega
        · exact hky y h
theorem m_laysLeaving (hC : mCx μ0 b k S ty sa) (hV : mShown S ty μ0) (ho : zI μ0 293 1 = o) (ho1 : o = 0 ∨ o = 1) : zok (f7_laysLeaving μ0) (fun m => mOl (vOrd S ty o) m ∧ mFrO μ0 m) := by
  have hW := hC.2.2.2.2.2.2.2
  unfold f7_laysLeaving
  refine zok_lt ?_
  refine zok_x2 (fun (x1 : Int) m => ∃ (f : Nat) (L : List Nat), x1 = f ∧ f ≤ 10 ∧ mFrO μ0 m ∧ mOl L m ∧ L.Pairwise (fun a c => kyO S ty o a < kyO S ty o c) ∧ (∀ x, x ∈ L ↔ x < f ∧ vLv S ty x = true) ∧ L.length ≤ f) (fun x1 _ => 10 - x1.toNat) (fun kk x1 m hx ih => ?_) zFu 0 _ ⟨0, [], rfl, by omega, ⟨zSm.rf.sI (fun q => q.1 rfl), fun i => rfl, fun i hi => zI_ni hi⟩, ⟨zI_eq rfl rfl, fun i hi => absurd hi (Nat.not_lt_zero i)⟩, List.Pairwise.nil, fun x => ⟨fun h => absurd h List.not_mem_nil, fun h => absurd h.1 (Nat.not_lt_zero x)⟩, Nat.le_refl 0⟩ (by show 10 - 0 < 100000; omega)
  obtain ⟨f, L, rfl, h1, hF, hO, hs, hm, hl⟩ := hx
  unfold f7_laysLeaving_7
  refine zok_if (fun h9 => zok_some ⟨?_, hF⟩) (fun h9 => ?_)
  · have e : L = vOrd S ty o := srt_uniq L _ hs (vOrd_srt hW ty ho1) (fun x => by
      rw [hm x, vOrd_mem hW ty o x]
      exact ⟨fun h => h.2, fun h => ⟨by have := vLv_lt hW h; omega, h⟩⟩)
    rw [← e]; exact hO
  · refine zok_co (m_has _ (f : Int) (by omega) (by omega)) (fun r hr => ?_)
    rw [show ((f : Int)).toNat = f from rfl, (hF.sh hV).2.2.2 f (by omega)] at hr
    subst hr
    cases hlv : vLv S ty f with
    | false =>
      refine zok_t rfl (zok_gl ⟨by omega, by omega⟩ (ih _ _ ⟨f + 1, L, by omega, by omega, hF, hO, hs, fun x => ?_, by omega⟩ (by show 10 - ((f : Int) + 1).toNat < 10 - (f : Int).toNat; omega)))
      rw [hm x]
      constructor
      · rintro ⟨h, h2⟩; exact ⟨by omega, h2⟩
      · rintro ⟨h, h2⟩
        by_cases e : x = f
        · rw [e, hlv] at h2; cases h2
        · exact ⟨by omega, h2⟩
    | true =>
      refine zok_f (by decide) (zok_lt (m_ins hC hV ho (by omega) hlv hs (fun x hx => (hm x).mp hx) hl (fun m' L' g1 g2 g3 g4 g5 => ih _ _ ⟨f + 1, L', by omega, by omega, g1, g5, g2, fun x => ?_, by omega⟩ (by show 10 - ((f : Int) + 1).toNat < 10 - (f : Int).toNat; omega)) hF hO))
      rw [g3 x, hm x]
      constructor
      · rintro (⟨h, h2⟩ | h)
        · exact ⟨by omega, h2⟩
        · rw [h]; exact ⟨by omega, hlv⟩
      · rintro ⟨h, h2⟩
        by_cases e : x = f
        · exact Or.inr e
        · exact Or.inl ⟨by omega, h2⟩
theorem m_placeOf {l : List Nat} (h : mOl l m) (hl : l.length ≤ 10) (f : Nat) : zok (f7_placeOf (f : Int) m) (fun r => r = plc l f) := by
  unfold f7_placeOf
  refine zok_x1 (fun (x : Int) => ∃ A B : List Nat, l = A ++ B ∧ x = (A.length : Nat) ∧ (∀ r, r = (if plc B f = -1 then (-1 : Int) else plc B f + A.length) → r = plc l f)) (fun x => 10 - x.toNat) (fun kk x hx ih => ?_) zFu 0 ⟨[], l, rfl, rfl, fun r hr => by
    rw [hr]
    by_cases e : plc l f = -1
    · rw [if_pos e]; exact e.symm
    · rw [if_neg e]; show plc l f + ((0 : Nat) : Int) = _; omega⟩ (by show 10 - 0 < 100000; omega)
  obtain ⟨A, B, hAB, rfl, hr⟩ := hx
  have hlen : l.length = A.length + B.length := by rw [hAB, List.length_append]
  unfold f7_placeOf_2
  rw [h.1]
  cases B with
  | nil =>
    rw [List.length_nil] at hlen
    exact zok_t (by omega) (zok_some (hr _ rfl))
  | cons c B =>
    rw [List.length_cons] at hlen
    refine zok_f (by omega) (zok_gd ⟨by omega, by rw [zl_m2.2.2.2.2.2.1]; omega⟩ ?_)
    have hg : l.getD A.length 0 = c := by rw [hAB, gdN_app, if_neg (Nat.lt_irrefl _), Nat.sub_self]; rfl
    rw [zx_nat, h.2 A.length (by omega), hg]
    have hB := plc_ge B f
    refine zok_if (fun h8 => zok_some (hr _ ?_)) (fun h8 => zok_gl ⟨by omega, by omega⟩ (ih _ ⟨A ++ [c], B, by rw [hAB, List.append_assoc]; rfl, by rw [List.length_append]; rfl, fun r hr2 => hr r ?_⟩ (by show 10 - (((A.length : Nat) : Int) + 1).toNat < 10 - ((A.length : Nat) : Int).toNat; omega)))
    · have e : plc (c :: B) f = 0 := by show (if c = f then (0 : Int) else _) = 0; rw [if_pos (by omega)]
      rw [e, if_neg (by decide)]; omega
    · have e : plc (c :: B) f = if plc B f = -1 then -1 else plc B f + 1 := by show (if c = f then (0 : Int) else _) = _; rw [if_neg (by omega)]
      rw [hr2, e, List.length_append, List.length_singleton]
      by_cases e2 : plc B f = -1
      · rw [if_pos e2, if_pos e2, if_pos rfl]
      · rw [if_neg e2, if_neg e2, if_neg (by omega)]; omega
end mLeav
