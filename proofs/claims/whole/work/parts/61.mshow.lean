/-! THE REFERENCE'S VIEW: what is shown -/
theorem zl_m : zln 293 = 2256 ∧ zln 294 = 2256 ∧ zln 295 = 18048 ∧ zln 296 = 4512 ∧ zln 297 = 2 ∧ zln 298 = 10 ∧ zln 313 = 700 ∧ zln 328 = 4 ∧ zln 329 = 60 ∧ zln 330 = 60 := by decide +kernel
theorem zl_m2 : zln 331 = 10 ∧ zln 332 = 10 ∧ zln 333 = 6000 ∧ zln 334 = 4100 ∧ zln 335 = 10 ∧ zln 336 = 10 ∧ zln 337 = 60 ∧ zln 338 = 400 := by decide +kernel
abbrev okB (b : Nat) : Prop := b = 299 ∨ b = 314
theorem okB_f {b : Nat} (h : okB b) : zln (b + 1) = 64 ∧ zln (b + 2) = 8 ∧ zln (b + 3) = 9 ∧ zln (b + 4) = 700 ∧ zln (b + 5) = 8 ∧ zln (b + 6) = 480 ∧ zln (b + 7) = 480 ∧ zln (b + 8) = 480 ∧ zln (b + 9) = 480 ∧ zln (b + 10) = 480 ∧ zln (b + 11) = 480 ∧ zln (b + 12) = 480 ∧ zln (b + 13) = 80 := by
  rcases h with rfl | rfl <;> decide +kernel
theorem pWk_congr {μ μ' : zM} {b k : Nat} (h4 : ∀ i, zI μ' (b + 4) i = zI μ (b + 4) i) (h10 : ∀ i, zI μ' (b + 10) i = zI μ (b + 10) i) (h11 : ∀ i, zI μ' (b + 11) i = zI μ (b + 11) i) : ∀ (l : List Int) (a e : Int), pWk μ b k a e l → pWk μ' b k a e l := by
  intro l
  induction l with
  | nil => intro a e h; exact h
  | cons x l ih =>
    intro a e h
    obtain ⟨h1, h2, h3⟩ := h
    refine ⟨h1, h2, ?_⟩
    rcases h3 with ⟨g1, g2, g3⟩ | ⟨g1, g2, g3, g4⟩
    · exact Or.inl ⟨g1, (h4 _).trans g2, ih _ _ g3⟩
    · exact Or.inr ⟨g1, (h4 _).trans g2, by rw [h10, h11]; exact g3, by rw [h11]; exact ih _ _ g4⟩
theorem pSm_keep {μ μ' : zM} {b k : Nat} {S : zSn} (h : ∀ c, b ≤ c → c ≤ b + 13 → ∀ i, zI μ' c i = zI μ c i) (hS : pSm μ b k S) : pSm μ' b k S := by
  obtain ⟨a1, a2, a3, a4, a5, a6, a7⟩ := hS
  have e : ∀ j, j ≤ 13 → ∀ i, zI μ' (b + j) i = zI μ (b + j) i := fun j hj i => h (b + j) (by omega) (by omega) i
  have eF : ∀ p, mFirst μ' b k p = mFirst μ b k p := fun p => by unfold mFirst; rw [e 3 (by decide), e 10 (by decide)]
  have eE : ∀ p, mEnd μ' b k p = mEnd μ b k p := fun p => by unfold mEnd; rw [e 3 (by decide), e 11 (by decide)]
  refine ⟨by rw [e 2 (by decide)]; exact a1, fun i hi => by rw [e 1 (by decide)]; exact a2 i hi, by rw [e 5 (by decide)]; exact a3, fun o ho => ?_, fun f hf => by rw [e 13 (by decide)]; exact a5 f hf, ?_, fun p hp => ?_⟩
  · rw [e 6 (by decide), e 7 (by decide), e 8 (by decide), e 9 (by decide), e 12 (by decide)]; exact a4 o ho
  · simp only [e 3 (by decide)]; exact a6
  · rw [eF, eE]
    exact ⟨(a7 p hp).1, (a7 p hp).2.1, (a7 p hp).2.2.1, pWk_congr (e 4 (by decide)) (e 10 (by decide)) (e 11 (by decide)) _ _ _ (a7 p hp).2.2.2⟩
/-- the reference looks at the snippet k of the library b, in a session at the place sa of the row, or (-1) bare -/
def mCx (μ : zM) (b k : Nat) (S : zSn) (ty : Nat → Bool) (sa : Int) : Prop :=
  okB b ∧ k < 8 ∧ zR μ 292 8 = b ∧ zI μ 292 21 = k ∧ zI μ 292 22 = sa ∧ ((sa = -1 ∧ ∀ f, f < 10 → ty f = false) ∨ (0 ≤ sa ∧ sa ≤ 1843 ∧ ∀ f, f < 10 → mbit (zI μ 293 (sa.toNat + 2)) f = ty f)) ∧ pSm μ b k S ∧ wS S
theorem mCx.keep {μ μ' : zM} {b k : Nat} {S : zSn} {ty : Nat → Bool} {sa : Int} (hC : mCx μ b k S ty sa) (h : zSm (fun c => 292 < c ∧ c < 328) μ μ') (hr : zR μ' 292 8 = zR μ 292 8) (h21 : zI μ' 292 21 = zI μ 292 21) (h22 : zI μ' 292 22 = zI μ 292 22) : mCx μ' b k S ty sa := by
  obtain ⟨c1, c2, c3, c4, c5, c6, c7, c8⟩ := hC
  refine ⟨c1, c2, hr.trans c3, h21.trans c4, h22.trans c5, ?_, pSm_keep (fun c h1 h2 i => (h c (by omega) i).1) c7, c8⟩
  rcases c6 with q | ⟨q1, q2, q3⟩
  · exact Or.inl q
  · exact Or.inr ⟨q1, q2, fun f hf => by rw [(h 293 (by omega) _).1]; exact q3 f hf⟩
theorem m_has (x f : Int) (h0 : 0 ≤ f) (h1 : f < 32) : zok (f7_has x f) (fun b => b = mbit x f.toNat) := by
  unfold f7_has
  refine zok_lt (zok_lt ?_)
  rw [mtest h0 h1]
  cases mbit x f.toNat with
  | true => exact zok_t rfl (zok_some rfl)
  | false => exact zok_f (by decide) (zok_some rfl)
theorem m_within (x a c : Int) : zok (f7_within x a c) (fun b => b = decide (a ≤ x ∧ x ≤ c)) := by
  unfold f7_within
  refine zok_if (fun h => zok_some ?_) (fun h => zok_if (fun h2 => zok_some ?_) (fun h2 => zok_some ?_))
  · exact (decide_eq_false (by omega)).symm
  · exact (decide_eq_false (by omega)).symm
  · exact (decide_eq_true (by omega)).symm
theorem vDef_iff (S : zSn) (ty : Nat → Bool) {q k : Nat} (hq : q < k) : vDef S ty (vSt S ty q) q = decide ((vSt S ty k).2 (sF S q).toNat = q) := by
  by_cases h : vDef S ty (vSt S ty q) q = true
  · have g9 : (vSt S ty (q + 1)).2 (sF S q).toNat = q := by
      have e2 : (vSt S ty (q + 1)).2 = if vDef S ty (vSt S ty q) q then updI (vSt S ty q).2 (sF S q).toNat q else (vSt S ty q).2 := rfl
      rw [e2, if_pos h]; unfold updI; rw [if_pos rfl]
    rw [h]
    exact (decide_eq_true (vSd_keep (by omega) g9 k (by omega))).symm
  · rw [Bool.not_eq_true] at h
    rw [h]
    refine (decide_eq_false (fun e => ?_)).symm
    rcases vSt_sd (S := S) ty k (sF S q).toNat with g | ⟨o, g1, g2, g3, g4, g5, g6, g7⟩
    · omega
    · have e9 : o = q := by omega
      subst e9
      have hd : vDef S ty (vSt S ty o) o = true := by
        unfold vDef
        rw [g3, g4, g5, g7]; rfl
      rw [hd] at h; cases h
section mShow
variable {μ0 m : zM} {b k : Nat} {S : zSn} {ty : Nat → Bool} {sa : Int} {Q : zM → Prop} {k42 : Int → zM → Option zM}
theorem m_isTyped (hC : mCx m b k S ty sa) (x : Int) (h0 : 0 ≤ x) (h1 : x < 10) : zok (f7_isTyped x m) (fun r => r = ty x.toNat) := by
  obtain ⟨c1, c2, c3, c4, c5, c6, -⟩ := hC
  unfold f7_isTyped
  rw [c5]
  rcases c6 with ⟨q1, q2⟩ | ⟨q1, q2, q3⟩
  · exact zok_t q1 (zok_some (q2 _ (by omega)).symm)
  · refine zok_f (by omega) (zok_gl ⟨by omega, by omega⟩ (zok_gd ⟨by omega, by rw [zl_m.1]; omega⟩ (zok_co (m_has _ x h0 (by omega)) (fun r hr => ?_))))
    subst hr
    rw [show zx (sa + 2) = sa.toNat + 2 from by show (sa + 2).toNat = _; omega, q3 _ (by omega)]
    cases ty x.toNat with
    | true => exact zok_f (by decide) (zok_some rfl)
    | false => exact zok_t rfl (zok_some rfl)
theorem m_many (hC : mCx m b k S ty sa) : zok (f7_many m) (fun r => r = sN S) := by
  obtain ⟨c1, c2, c3, c4, c5, c6, c7, c8⟩ := hC
  have e := okB_f c1
  unfold f7_many
  rw [c4, c3, zx_nat, e.2.2.2.2.1, c7.2.2.1]
  exact zok_gd ⟨by omega, by omega⟩ (zok_some rfl)
theorem m_of (hC : mCx m b k S ty sa) {o : Nat} (ho : o < 60) : zok (f7_of (o : Int) m) (fun r => r = ((60 * k + o : Nat) : Int)) := by
  obtain ⟨c1, c2, c3, c4, -⟩ := hC
  unfold f7_of
  rw [c4]
  exact zok_gl ⟨by omega, by omega⟩ (zok_gl ⟨by omega, by omega⟩ (zok_some (by omega)))
/-- which cells the laying of what is shown writes -/
def mVc (c : Nat) : Prop := c ≠ 292 ∧ c ≠ 329 ∧ c ≠ 330 ∧ c ≠ 331 ∧ c ≠ 332 ∧ c ≠ 335
def mFrS (μ m : zM) : Prop := zSm mVc μ m ∧ (∀ i, zR m 292 i = zR μ 292 i) ∧ (∀ i, i ≠ 27 → zI m 292 i = zI μ 292 i)
theorem mFrS.cx (h : mFrS μ0 m) (hC : mCx μ0 b k S ty sa) : mCx m b k S ty sa := hC.keep (h.1.mono (fun c hc => by unfold mVc; omega)) (h.2.1 8) (h.2.2 21 (by decide)) (h.2.2 22 (by decide))
def mShI (μ0 : zM) (S : zSn) (ty : Nat → Bool) (j : Nat) (m : zM) : Prop :=
  mFrS μ0 m ∧ (∀ f, f < 10 → zI m 332 f = -1 ∧ zI m 335 f = 0) ∧
  (∀ o, o < j → zI m 329 o = zb ((vSt S ty j).1 o) ∧ zI m 330 o = zb (vDef S ty (vSt S ty o) o)) ∧ (∀ f, f < 10 → zI m 331 f = (vSt S ty j).2 f) ∧ zr (zI m 292 27) ∧ ∀ i, i < 32 → mbit (zI m 292 27) i = decide (∃ o, o < j ∧ (vSt S ty j).1 o = true ∧ sF S o = i)
/-- what a turn of the loop leaves -/
def mTurn (m : zM) (j : Nat) (F : Int) (h d : Bool) : zM := zsI (zsI (zsI (zsI m 329 j (zb h)) 330 j (zb d)) 331 F.toNat (if d = true then (j : Int) else zI m 331 F.toNat)) 292 27 (zor (zI m 292 27) (if h = true then zshl 1 F else 0))
theorem m_156 {j : Nat} (hj : j < 60) {F : Int} (hF : 0 ≤ F ∧ F < 10) (h d : Bool) (cont : zok (k42 ((j : Int) + 1) (mTurn m j F h d)) Q) : zok (f7_shows_156 k42 (j : Int) F (zb d) (j : Int) (zsI m 329 j (zb h))) Q := by
  unfold f7_shows_156
  refine zok_gd ⟨⟨by omega, by rw [zl_m.2.2.2.2.2.2.2.2.2]; omega⟩, zb01 d⟩ (zok_lt (zok_gd ⟨by omega, by rw [zl_m.2.2.2.2.2.2.2.2.2]; omega⟩ ?_))
  rw [zx_nat, zI_eq rfl rfl]
  have tail : ∀ s0 : Int, s0 = (if d = true then (j : Int) else zI m 331 F.toNat) → zok (f7_shows_181 k42 (j : Int) F s0 F (zsI (zsI m 329 j (zb h)) 330 j (zb d))) Q := by
    intro s0 hs0
    unfold f7_shows_181
    refine zok_gd ⟨hF.1, by rw [zl_m2.1]; omega⟩ (zok_lt (zok_gd ⟨by omega, by rw [zl_m.2.2.2.2.2.2.2.2.1]; omega⟩ ?_))
    rw [zx_nat, zI_nk (by decide), zI_nk (by decide), zI_eq rfl rfl, zI_nk (by decide), zI_nk (by decide), zI_nk (by decide), hs0]
    have fin : ∀ s1 : Int, s1 = (if h = true then zshl 1 F else 0) → zok (f7_shows_203 k42 (j : Int) s1 (zI m 292 27) (zsI (zsI (zsI m 329 j (zb h)) 330 j (zb d)) 331 (zx F) (if d = true then (j : Int) else zI m 331 F.toNat))) Q := by
      intro s1 hs1
      unfold f7_shows_203
      refine zok_lt (zok_lt (zok_gl ⟨by omega, by omega⟩ ?_))
      rw [hs1]
      exact cont
    cases h with
    | true => exact zok_f (by decide) (zok_lt (fin _ (by rw [if_pos rfl])))
    | false => exact zok_t rfl (fin _ (by rw [if_neg (by decide)]))
  cases d with
  | true => exact zok_f (by decide) (tail _ (by rw [if_pos rfl]))
  | false =>
    refine zok_t rfl (zok_gd ⟨hF.1, by rw [zl_m2.1]; omega⟩ (tail _ ?_))
    rw [if_neg (by decide), zI_nk (by decide), zI_nk (by decide)]
theorem m_turn {j : Nat} (hF : 0 ≤ sF S j ∧ sF S j < 10) (hI : mShI μ0 S ty j m) : mShI μ0 S ty (j + 1) (mTurn m j (sF S j) (vHere S (vSt S ty j) j) (vDef S ty (vSt S ty j) j)) := by
  obtain ⟨⟨i1, i2, i3⟩, i4, i5, i6, i7, i8⟩ := hI
  have e1 : ∀ o, (vSt S ty (j + 1)).1 o = if o = j then vHere S (vSt S ty j) j else (vSt S ty j).1 o := fun o => rfl
  have e2 : (vSt S ty (j + 1)).2 = if vDef S ty (vSt S ty j) j then updI (vSt S ty j).2 (sF S j).toNat j else (vSt S ty j).2 := rfl
  unfold mTurn
  refine ⟨⟨(((i1.sI (fun h => h.2.1 rfl)).sI (fun h => h.2.2.1 rfl)).sI (fun h => h.2.2.2.1 rfl)).sI (fun h => h.1 rfl), fun i => i2 i, fun i hi => ?_⟩, fun f hf => ?_, fun o ho => ?_, fun f hf => ?_, ?_, fun i hi => ?_⟩
  · rw [zI_ni hi, zI_nk (by decide), zI_nk (by decide), zI_nk (by decide)]; exact i3 i hi
  · rw [zI_nk (by decide), zI_nk (by decide), zI_nk (by decide), zI_nk (by decide), zI_nk (by decide), zI_nk (by decide), zI_nk (by decide), zI_nk (by decide)]; exact i4 f hf
  · refine ⟨?_, ?_⟩
    · rw [zI_nk (by decide), zI_nk (by decide), zI_nk (by decide), e1]
      by_cases e : o = j
      · rw [zI_eq rfl e, if_pos e]
      · rw [zI_ni e, if_neg e]; exact (i5 o (by omega)).1
    · rw [zI_nk (by decide), zI_nk (by decide)]
      by_cases e : o = j
      · rw [zI_eq rfl e, e]
      · rw [zI_ni e, zI_nk (by decide)]; exact (i5 o (by omega)).2
  · rw [zI_nk (by decide), e2]
    by_cases e : vDef S ty (vSt S ty j) j = true
    · rw [if_pos e, if_pos e]
      unfold updI
      by_cases e3 : f = (sF S j).toNat
      · rw [zI_eq rfl e3, if_pos e3]
      · rw [zI_ni e3, if_neg e3, zI_nk (by decide), zI_nk (by decide)]; exact i6 f hf
    · rw [if_neg e, if_neg e]
      by_cases e3 : f = (sF S j).toNat
      · rw [zI_eq rfl e3, ← e3]; exact i6 f hf
      · rw [zI_ni e3, zI_nk (by decide), zI_nk (by decide)]; exact i6 f hf
  · rw [zI_eq rfl rfl]; exact zr_of _
  · rw [zI_eq rfl rfl, mbit_or, i8 i hi]
    by_cases e : vHere S (vSt S ty j) j = true
    · rw [if_pos e, mbit_shl hF.1 (by omega)]
      by_cases e3 : sF S j = i
      · rw [decide_eq_true (p := (i : Int) = sF S j) e3.symm, Bool.or_true]
        exact (decide_eq_true ⟨j, by omega, by rw [e1, if_pos rfl]; exact e, e3⟩).symm
      · rw [decide_eq_false (p := (i : Int) = sF S j) (fun q => e3 q.symm), Bool.or_false]
        apply decide_eq_decide.mpr
        exact ⟨fun ⟨o, q1, q2, q3⟩ => ⟨o, by omega, by rw [e1, if_neg (by omega)]; exact q2, q3⟩, fun ⟨o, q1, q2, q3⟩ => by
          by_cases e4 : o = j
          · subst e4; exact absurd q3 e3
          · rw [e1, if_neg e4] at q2; exact ⟨o, by omega, q2, q3⟩⟩
    · rw [if_neg e, mbit_0, Bool.or_false]
      rw [Bool.not_eq_true] at e
      apply decide_eq_decide.mpr
      exact ⟨fun ⟨o, q1, q2, q3⟩ => ⟨o, by omega, by rw [e1, if_neg (by omega)]; exact q2, q3⟩, fun ⟨o, q1, q2, q3⟩ => by
        by_cases e4 : o = j
        · subst e4; rw [e1, if_pos rfl, e] at q2; cases q2
        · rw [e1, if_neg e4] at q2; exact ⟨o, by omega, q2, q3⟩⟩
theorem m_42 (hC : mCx μ0 b k S ty sa) (hQ : ∀ m', mShI μ0 S ty (sN S) m' → Q m') (hI : mShI μ0 S ty 0 m) : zok (zfx f7_shows_42 (fun _ _ => none) zFu 0 m) Q := by
  have hW := hC.2.2.2.2.2.2.2
  have hn := hW.1
  refine zok_x2 (fun (x : Int) m => ∃ j : Nat, x = j ∧ j ≤ sN S ∧ mShI μ0 S ty j m) (fun x _ => 60 - x.toNat) (fun kk x m hx ih => ?_) zFu 0 m ⟨0, rfl, by omega, hI⟩ (by show 60 - 0 < 100000; omega)
  obtain ⟨j, rfl, hj, hI⟩ := hx
  have hI' := hI
  obtain ⟨i1, i2, i3, i4, i5, i6⟩ := hI
  have hC' := i1.cx hC
  obtain ⟨c1, c2, c3, c4, c5, c6, c7, c8⟩ := hC'
  obtain ⟨b1, b2, b3, b4, b5, b6, b7, b8, b9, b10, b11, b12, b13⟩ := okB_f c1
  unfold f7_shows_42
  refine zok_co (m_many (i1.cx hC)) (fun r hr => ?_)
  subst hr
  refine zok_if (fun h => zok_some (hQ _ (by rw [show sN S = j by omega]; exact hI'))) (fun h => ?_)
  have hj2 : j < sN S := by omega
  have hx := c7.2.2.2.1 j hj2
  obtain ⟨f1, f2, f3, f4, f5, -⟩ := hW.2.2.2.1 j hj2
  refine zok_co (m_of (i1.cx hC) (show j < 60 by omega)) (fun r hr => ?_)
  subst hr
  rw [c3, b6, b9, zx_nat, hx.1, hx.2.2.2.1]
  refine zok_gd ⟨by omega, by omega⟩ (zok_lt (zok_gd ⟨by omega, by omega⟩ ?_))
  -- the turn, with what is shown decided
  have turn : ∀ s0 : Bool, s0 = vHere S (vSt S ty j) j → zok (f7_shows_106 kk (j : Int) ((60 * k + j : Nat) : Int) (sF S j) (zb s0) (j : Int) m) Q := by
    intro s0 hs0
    have fin : ∀ d : Bool, d = vDef S ty (vSt S ty j) j → zok (f7_shows_156 kk (j : Int) (sF S j) (zb d) (j : Int) (zsI m 329 j (zb s0))) Q := by
      intro d hd
      refine m_156 (by omega) ⟨f1, f2⟩ s0 d ?_
      rw [hs0, hd]
      exact ih _ _ ⟨j + 1, by omega, by omega, m_turn ⟨f1, f2⟩ hI'⟩ (by show 60 - ((j : Int) + 1).toNat < 60 - (j : Int).toNat; omega)
    have no : vDef S ty (vSt S ty j) j = false → zok (f7_shows_155 kk (j : Int) (sF S j) (j : Int) (zsI m 329 j (zb s0))) Q := fun hd => by
      unfold f7_shows_155
      exact fin false hd.symm
    unfold f7_shows_106
    refine zok_gd ⟨⟨by omega, by rw [zl_m.2.2.2.2.2.2.2.2.1]; omega⟩, zb01 s0⟩ (zok_lt ?_)
    rw [zR_sI, c3, b8, zx_nat, zx_nat, zI_nk (by omega), zI_eq rfl rfl, hx.2.2.1]
    refine zok_gd ⟨by omega, by omega⟩ (zok_if (fun hd => no ?_) (fun hd => zok_gd ⟨by omega, by rw [zl_m.2.2.2.2.2.2.2.2.1]; omega⟩ ?_))
    · unfold vDef; rw [hd]; simp
    · have hd1 : sD S j = 1 := f5.resolve_left hd
      cases s0 with
      | false => exact zok_t rfl (no (by unfold vDef; rw [← hs0]; rfl))
      | true =>
        refine zok_f (by decide) ?_
        have hC2 : mCx (zsI m 329 j (zb true)) b k S ty sa := (i1.cx hC).keep (zSm.rf.sI (by omega)) rfl (zI_nk (by decide)) (zI_nk (by decide))
        refine zok_co (m_isTyped hC2 (sF S j) f1 f2) (fun r hr => ?_)
        subst hr
        cases hT : ty (sF S j).toNat with
        | true => exact zok_f (by decide) (no (by unfold vDef; rw [hT]; simp))
        | false =>
          refine zok_t rfl (zok_gd ⟨f1, by rw [zl_m2.1]; omega⟩ ?_)
          rw [zI_nk (by decide), show zx (sF S j) = (sF S j).toNat from rfl, i4 _ (by omega)]
          refine zok_if (fun h9 => ?_) (fun h9 => no ?_)
          · exact fin true (by unfold vDef; rw [← hs0, hd1, hT, h9]; rfl)
          · unfold vDef
            rw [decide_eq_false (p := (vSt S ty j).2 (sF S j).toNat = -1) h9, Bool.and_false]
  by_cases e : sP S j = -1
  · refine zok_t e (turn true ?_)
    unfold vHere; rw [e]; rfl
  · refine zok_f e ?_
    rcases hW.2.2.2.2.1 j hj2 with h9 | ⟨p, h1, h2, h3, h4⟩
    · exact absurd h9.1 e
    · rw [h1]
      refine zok_gd ⟨by omega, by omega⟩ (zok_gd ⟨by omega, by rw [zl_m.2.2.2.2.2.2.2.2.2]; omega⟩ ?_)
      rw [zx_nat, (i3 p h2).2, vDef_iff S ty h2]
      have ev : vHere S (vSt S ty j) j = decide ((vSt S ty j).2 (sF S p).toNat = p) := by
        unfold vHere
        rw [decide_eq_false e, Bool.false_or, h1, show ((p : Int)).toNat = p from rfl]
      rw [← ev]
      cases e8 : vHere S (vSt S ty j) j with
      | true => exact zok_f (by decide) (turn true e8.symm)
      | false => exact zok_t rfl (turn false e8.symm)
/-- what shows() lays -/
def mShown (S : zSn) (ty : Nat → Bool) (m : zM) : Prop := (∀ o, o < sN S → zI m 329 o = zb (vSh S ty o) ∧ zI m 330 o = zb (decide (vSd S ty (sF S o).toNat = o))) ∧ (∀ f, f < 10 → zI m 331 f = vSd S ty f) ∧ zr (zI m 292 27) ∧ ∀ i, i < 32 → mbit (zI m 292 27) i = vLv S ty i
theorem m_shows (hC : mCx μ0 b k S ty sa) : zok (f7_shows μ0) (fun m => mShown S ty m ∧ (∀ f, f < 10 → zI m 332 f = -1 ∧ zI m 335 f = 0) ∧ mFrS μ0 m) := by
  unfold f7_shows
  refine zok_x2 (fun x m => 0 ≤ x ∧ x ≤ 10 ∧ mFrS μ0 m ∧ ∀ f : Nat, (f : Int) < x → zI m 331 f = -1 ∧ zI m 332 f = -1 ∧ zI m 335 f = 0) (fun x _ => 10 - x.toNat) (fun kk x m hx ih => ?_) zFu 0 _ ⟨by omega, by omega, ⟨zSm.rf, fun i => rfl, fun i hi => rfl⟩, fun f hf => absurd hf (by omega)⟩ (by show 10 - 0 < 100000; omega)
  obtain ⟨h0, h1, h2, h4⟩ := hx
  unfold f7_shows_2
  refine zok_if (fun h => zok_lt ?_) (fun h => ?_)
  · refine m_42 hC (fun m' h => ?_) ⟨⟨h2.1.sI (fun q => q.1 rfl), fun i => h2.2.1 i, fun i hi => (zI_ni hi).trans (h2.2.2 i hi)⟩, fun f hf => ⟨(zI_nk (by decide)).trans (h4 f (by omega)).2.1, (zI_nk (by decide)).trans (h4 f (by omega)).2.2⟩, fun o ho => absurd ho (by omega), fun f hf => (zI_nk (by decide)).trans (h4 f (by omega)).1, by rw [zI_eq rfl rfl]; exact ⟨by decide, by decide⟩, fun i hi => ?_⟩
    · obtain ⟨i1, i2, i3, i4, i5, i6⟩ := h
      exact ⟨⟨fun o ho => ⟨(i3 o ho).1, (i3 o ho).2.trans (by rw [vDef_iff S ty ho]; rfl)⟩, i4, i5, i6⟩, i2, i1⟩
    · rw [zI_eq rfl rfl, mbit_0]
      exact (decide_eq_false (fun ⟨o, q, _⟩ => absurd q (by omega))).symm
  · refine zok_gd ⟨h0, by rw [zl_m2.1]; omega⟩ (zok_lt (zok_gd ⟨h0, by rw [zl_m2.2.1]; omega⟩ (zok_lt (zok_gd ⟨⟨h0, by rw [zl_m2.2.2.2.2.1]; omega⟩, Or.inl rfl⟩ (zok_lt (zok_gl ⟨by omega, by omega⟩ (ih _ _ ?_ (by show 10 - (x + 1).toNat < 10 - x.toNat; omega))))))))
    refine ⟨by omega, by omega, ⟨((h2.1.sI (fun h => h.2.2.2.1 rfl)).sI (fun h => h.2.2.2.2.1 rfl)).sI (fun h => h.2.2.2.2.2 rfl), fun i => h2.2.1 i, fun i hi => (zI_nk (by decide)).trans ((zI_nk (by decide)).trans ((zI_nk (by decide)).trans (h2.2.2 i hi)))⟩, fun f hf => ?_⟩
    by_cases e : (f : Int) = x
    · have e2 : f = zx x := by show f = x.toNat; omega
      exact ⟨(zI_nk (by decide)).trans ((zI_nk (by decide)).trans (zI_eq rfl e2)), (zI_nk (by decide)).trans (zI_eq rfl e2), zI_eq rfl e2⟩
    · have e2 : f ≠ zx x := by show f ≠ x.toNat; omega
      obtain ⟨g1, g2, g3⟩ := h4 f (by omega)
      exact ⟨(zI_nk (by decide)).trans ((zI_nk (by decide)).trans ((zI_ni e2).trans g1)), (zI_nk (by decide)).trans ((zI_ni e2).trans ((zI_nk (by decide)).trans g2)), (zI_ni e2).trans ((zI_nk (by decide)).trans ((zI_nk (by decide)).trans g3))⟩
end mShow
