/-! THE REFERENCE'S VALUES -/
def mTxs (μ : zM) (ty : Nat → Bool) (tx : Nat → List Int) (sa : Int) : Prop := ∀ f, f < 10 → ty f = true → zI μ 293 (sa.toNat + 3 + f) = (tx f).length ∧ ∀ i, i < (tx f).length → zI μ 293 (sa.toNat + 13 + 40 * f + i) = (tx f).getD i 0
def mRf (μ0 m : zM) : Prop := zSm (fun c => c ≠ 292 ∧ c ≠ 332 ∧ c ≠ 333 ∧ c ≠ 334 ∧ c ≠ 335) μ0 m ∧ (∀ i, zR m 292 i = zR μ0 292 i) ∧ ∀ i, i ≠ 29 → zI m 292 i = zI μ0 292 i
def mFil (v : Nat → List Int) (m : zM) (f : Nat) : Prop := zI m 335 f = 1 ∧ ∀ i, i < (v f).length → zI m 334 (410 * f + i) = (v f).getD i 0
def mMe (S : zSn) (ty : Nat → Bool) (tx : Nat → List Int) (m : zM) : Prop := ∀ f, f < 10 → zI m 332 f = -1 ∨ zI m 332 f = mL S ty (fun f => (tx f).length) f
def mRi (S : zSn) (ty : Nat → Bool) (tx : Nat → List Int) (μ0 : zM) (r : Nat) (m : zM) : Prop := mRf μ0 m ∧ mMe S ty tx m ∧ ∀ f, f < 10 → vRk S f < r → zI m 335 f = 0 ∨ mFil (vV S ty tx) m f
def mKp (S : zSn) (r : Nat) (m m' : zM) : Prop := ∀ g, g < 10 → r ≤ vRk S g → zI m' 335 g = zI m 335 g ∧ ∀ i, i < 410 → zI m' 334 (410 * g + i) = zI m 334 (410 * g + i)
theorem mKp.tr {S : zSn} {r : Nat} {m m1 m2 : zM} (h : mKp S r m m1) (h' : mKp S r m1 m2) : mKp S r m m2 := fun g hg hr => ⟨((h' g hg hr).1).trans (h g hg hr).1, fun i hi => ((h' g hg hr).2 i hi).trans ((h g hg hr).2 i hi)⟩
theorem mKp.sm {S : zSn} {r : Nat} {m m1 : zM} (h1 : ∀ i, zI m1 335 i = zI m 335 i) (h2 : ∀ i, zI m1 334 i = zI m 334 i) : mKp S r m m1 := fun g _ _ => ⟨h1 g, fun i _ => h2 _⟩
theorem oW_app {m0 m1 m2 : zM} {q : Nat} {l1 l2 : List Int} (h1 : oW m0 q l1 m1) (h2 : oW m1 (q + l1.length) l2 m2) : oW m0 q (l1 ++ l2) m2 := by
  refine ⟨by rw [h2.1, List.length_append]; omega, fun i hi => ?_, fun i hi => (h2.2.2 i (by omega)).trans (h1.2.2 i hi)⟩
  rw [List.length_append] at hi
  rw [gd_app]
  by_cases e : i < l1.length
  · rw [if_pos e, h2.2.2 _ (by omega)]; exact h1.2.1 i e
  · rw [if_neg e, show q + i = q + l1.length + (i - l1.length) by omega]; exact h2.2.1 _ (by omega)
section mVal
variable {μ0 m m2 : zM} {b k : Nat} {S : zSn} {ty : Nat → Bool} {sa : Int} {tx : Nat → List Int} {q r : Nat}
theorem mRf.cx (h : mRf μ0 m) (hC : mCx μ0 b k S ty sa) : mCx m b k S ty sa := hC.keep (h.1.mono (fun c hc => by omega)) (h.2.1 8) (h.2.2 21 (by decide)) (h.2.2 22 (by decide))
theorem mRf.sh (h : mRf μ0 m) (hV : mShown S ty μ0) : mShown S ty m := by
  obtain ⟨a1, a2, a3, a4⟩ := hV
  have e : ∀ c, c ≠ 292 → c ≠ 332 → c ≠ 333 → c ≠ 334 → c ≠ 335 → ∀ i, zI m c i = zI μ0 c i := fun c h1 h2 h3 h4 h5 i => (h.1 c ⟨h1, h2, h3, h4, h5⟩ i).1
  refine ⟨fun o ho => ?_, fun f hf => ?_, ?_, fun i hi => ?_⟩
  · rw [e 329 (by decide) (by decide) (by decide) (by decide) (by decide), e 330 (by decide) (by decide) (by decide) (by decide) (by decide)]; exact a1 o ho
  · rw [e 331 (by decide) (by decide) (by decide) (by decide) (by decide)]; exact a2 f hf
  · rw [h.2.2 27 (by decide)]; exact a3
  · rw [h.2.2 27 (by decide)]; exact a4 i hi
theorem mRf.txs (h : mRf μ0 m) (hX : mTxs μ0 ty tx sa) : mTxs m ty tx sa := fun f hf ht => ⟨((h.1 293 (by decide) _).1).trans (hX f hf ht).1, fun i hi => ((h.1 293 (by decide) _).1).trans ((hX f hf ht).2 i hi)⟩
theorem mRf.oF (h : mRf μ0 m) (h2 : oF m m2) : mRf μ0 m2 := ⟨h.1.tr (h2.1.mono (fun c hc => ⟨hc.1, hc.2.2.1⟩)), fun i => (h2.2.1 i).trans (h.2.1 i), fun i hi => (h2.2.2 i hi).trans (h.2.2 i hi)⟩
theorem mRi.oF (h : mRi S ty tx μ0 r m) (h2 : oF m m2) : mRi S ty tx μ0 r m2 := by
  obtain ⟨a1, a2, a3⟩ := h
  refine ⟨a1.oF h2, fun f hf => ?_, fun f hf hr => ?_⟩
  · rw [(h2.1 332 (by decide) f).1]; exact a2 f hf
  · unfold mFil
    rw [(h2.1 335 (by decide) f).1]
    rcases a3 f hf hr with h | h
    · exact Or.inl h
    · exact Or.inr ⟨h.1, fun i hi => ((h2.1 334 (by decide) _).1).trans (h.2 i hi)⟩
theorem mKp.oF (h2 : oF m m2) : mKp S r m m2 := mKp.sm (fun i => (h2.1 335 (by decide) i).1) (fun i => (h2.1 334 (by decide) i).1)
theorem mV_len (hW : wS S) (hl : ∀ f, f < 10 → (tx f).length ≤ 40) (hTX : vTL S ty (fun f => (tx f).length) ≤ 400) {f : Nat} (hf : f < 10) : mL S ty (fun f => (tx f).length) f = (vV S ty tx f).length ∧ (vV S ty tx f).length ≤ 400 :=
  ⟨by rw [vV_len]; exact mL_same hW ty (fun f hf => Nat.le_trans (hl f hf) (by decide)) (by omega) hf, vV_400 hW hl hTX hf⟩
theorem m_143 {RA RB : Int → zM → Option zM} {RC : Int → Int → zM → Option zM} {m0 : zM} {f : Nat} (hf : f < 10) {l : List Int} (hl : l.length ≤ 400) (hq : q ≤ 5500) (h : oW m0 q l m2) : zok (zfx (f7_laysValue_143 RA RB RC (f : Int)) (fun _ _ _ => none) zFu (q : Int) (q : Int) m2) (fun m3 => zSm (fun c => c ≠ 292 ∧ c ≠ 334) m2 m3 ∧ (∀ i, zR m3 292 i = zR m2 292 i) ∧ (∀ i, i ≠ 29 → zI m3 292 i = zI m2 292 i) ∧ zI m3 292 29 = q ∧ (∀ i, i < l.length → zI m3 334 (410 * f + i) = l.getD i 0) ∧ ∀ i, (i < 410 * f ∨ 410 * f + 410 ≤ i) → zI m3 334 i = zI m2 334 i) := by
  refine zok_x3 (fun x2 x3 m => x2 = (q : Int) ∧ ∃ j : Nat, x3 = ((q + j : Nat) : Int) ∧ j ≤ l.length ∧ zSm (fun c => c ≠ 334) m2 m ∧ (∀ i, i < j → zI m 334 (410 * f + i) = l.getD i 0) ∧ ∀ i, (i < 410 * f ∨ 410 * f + 410 ≤ i) → zI m 334 i = zI m2 334 i) (fun _ x3 _ => 6000 - x3.toNat) (fun kk x2 x3 m hx ih => ?_) zFu _ _ m2 ⟨rfl, 0, rfl, by omega, zSm.rf, fun i hi => absurd hi (Nat.not_lt_zero i), fun i _ => rfl⟩ (by show 6000 - _ < 100000; omega)
  obtain ⟨rfl, j, rfl, g1, g2, g3, g4⟩ := hx
  unfold f7_laysValue_143
  rw [(g2 292 (by decide) 29).1, h.1]
  refine zok_if (fun h9 => zok_lt (zok_some ⟨(g2.mono (fun c hc => hc.2)).sI (fun q => q.1 rfl), fun i => (g2 292 (by decide) i).2.2, fun i hi => (zI_ni hi).trans (g2 292 (by decide) i).1, zI_eq rfl rfl, fun i hi => (zI_nk (by decide)).trans (g3 i (by omega)), fun i hi => (zI_nk (by decide)).trans (g4 i hi)⟩)) (fun h9 => ?_)
  refine zok_gl ⟨by omega, by omega⟩ (zok_gl ⟨by omega, by omega⟩ (zok_gl ⟨by omega, by omega⟩ (zok_gd ⟨by omega, by rw [zl_m2.2.2.1]; omega⟩ (zok_gd ⟨by omega, by rw [zl_m2.2.2.2.1]; omega⟩ (zok_lt (zok_gl ⟨by omega, by omega⟩ ?_))))))
  rw [show zx (410 * (f : Int) + ((q + j : Nat) : Int) - (q : Int)) = 410 * f + j from by show (410 * (f : Int) + ((q + j : Nat) : Int) - (q : Int)).toNat = _; omega, zx_nat, (g2 333 (by decide) _).1, h.2.1 j (by omega)]
  refine ih _ _ _ ⟨rfl, j + 1, by omega, by omega, g2.sI (fun q => q rfl), fun i hi => ?_, fun i hi => (zI_ni (by omega)).trans (g4 i hi)⟩ (by show 6000 - (((q + j : Nat) : Int) + 1).toNat < 6000 - ((q + j : Nat) : Int).toNat; omega)
  by_cases e : i = j
  · rw [zI_eq rfl (by omega), e]
  · rw [zI_ni (by omega)]; exact g3 i (by omega)
theorem m_32 {RA RB : Int → zM → Option zM} {RC : Int → Int → zM → Option zM} {Q : zM → Prop} {f : Nat} (hf : f < 10) (hs : 0 ≤ sa ∧ sa ≤ 1843) (h22 : zI m 292 22 = sa) (hlen : zI m 293 (sa.toNat + 3 + f) = (tx f).length) (hby : ∀ i, i < (tx f).length → zI m 293 (sa.toNat + 13 + 40 * f + i) = (tx f).getD i 0) (h40 : (tx f).length ≤ 40) (hq : q ≤ 5500) (ho : zI m 292 29 = q)
    (cont : ∀ m', oW m q (tx f) m' → oF m m' → zok (zfx (f7_laysValue_143 RA RB RC (f : Int)) (fun _ _ _ => none) zFu (q : Int) (q : Int) m') Q) : zok (zfx (f7_laysValue_32 RA RB RC (f : Int)) (fun _ _ _ => none) zFu (q : Int) 0 m) Q := by
  refine zok_x3 (fun x2 x3 m' => x2 = (q : Int) ∧ ∃ j : Nat, x3 = (j : Int) ∧ j ≤ (tx f).length ∧ oF m m' ∧ oW m q ((tx f).take j) m') (fun _ x3 _ => 40 - x3.toNat) (fun kk x2 x3 m' hx ih => ?_) zFu _ _ m ⟨rfl, 0, rfl, by omega, ⟨zSm.rf, fun _ => rfl, fun _ _ => rfl⟩, ho, fun i hi => absurd hi (Nat.not_lt_zero i), fun i _ => rfl⟩ (by show 40 - 0 < 100000; omega)
  obtain ⟨rfl, j, rfl, g1, g2, g3⟩ := hx
  have hlj : ((tx f).take j).length = j := by rw [List.length_take]; omega
  unfold f7_laysValue_32
  rw [g2.2.2 22 (by decide), h22]
  refine zok_gl ⟨by omega, by omega⟩ (zok_gl ⟨by omega, by omega⟩ (zok_gd ⟨by omega, by rw [zl_m.1]; omega⟩ ?_))
  rw [show zx (sa + 3 + (f : Int)) = sa.toNat + 3 + f from by show (sa + 3 + (f : Int)).toNat = _; omega, (g2.1 293 (by decide) _).1, hlen]
  refine zok_if (fun h9 => cont _ ?_ g2) (fun h9 => ?_)
  · rw [List.take_of_length_le (by omega)] at g3; exact g3
  · refine zok_gl ⟨by omega, by omega⟩ (zok_gl ⟨by omega, by omega⟩ (zok_gl ⟨by omega, by omega⟩ (zok_gl ⟨by omega, by omega⟩ (zok_gd ⟨by omega, by rw [zl_m.1]; omega⟩ ?_))))
    rw [g3.1, hlj, zx_nat, show zx (sa + 13 + 40 * (f : Int) + (j : Int)) = sa.toNat + 13 + 40 * f + j from by show (sa + 13 + 40 * (f : Int) + (j : Int)).toNat = _; omega, (g2.1 293 (by decide) _).1, hby j (by omega)]
    refine zok_gd ⟨by omega, by rw [zl_m2.2.2.1]; omega⟩ (zok_lt ?_)
    rw [zI_nk (by decide), g3.1, hlj]
    refine zok_gl ⟨by omega, by omega⟩ (zok_lt (zok_gl ⟨by omega, by omega⟩ (ih _ _ _ ⟨rfl, j + 1, by omega, by omega, g2.put _ _ _, ?_⟩ (by show 40 - ((j : Int) + 1).toNat < 40 - (j : Int).toNat; omega))))
    rw [gd_take _ (by omega)]
    have := oW_put (x := (tx f).getD j 0) (e := ((q + j : Nat) : Int) + 1) g3 (by rw [hlj]; omega)
    rw [hlj] at this
    exact this
/-- the three contracts -/
def cLV (S : zSn) (ty : Nat → Bool) (tx : Nat → List Int) (μ0 : zM) (n : Nat) : Prop := ∀ f : Nat, f < 10 → 3 * vRk S f + 2 ≤ n → ∀ r q m, vRk S f < r → q + 400 * vRk S f + 800 ≤ 6000 → mRi S ty tx μ0 r m → zI m 292 29 = (q : Nat) → zok (f7_laysValue n (f : Int) m) (fun m' => mRi S ty tx μ0 r m' ∧ zI m' 292 29 = (q : Nat) ∧ (∀ i, i < q → zI m' 333 i = zI m 333 i) ∧ mKp S r m m' ∧ mFil (vV S ty tx) m' f)
def cWV (S : zSn) (ty : Nat → Bool) (tx : Nat → List Int) (μ0 : zM) (n : Nat) : Prop := ∀ f : Nat, f < 10 → 3 * vRk S f + 3 ≤ n → ∀ r q m, vRk S f < r → q + 400 * vRk S f + 800 ≤ 6000 → mRi S ty tx μ0 r m → zI m 292 29 = (q : Nat) → zok (f7_writesValue n (f : Int) m) (fun m' => mRi S ty tx μ0 r m' ∧ oW m q (vV S ty tx f) m' ∧ mKp S r m m')
def cWB (b k : Nat) (S : zSn) (ty : Nat → Bool) (tx : Nat → List Int) (μ0 : zM) (n : Nat) : Prop := ∀ p, isPart S p → 1 ≤ n → (∀ o, o < sN S → sP S o = p → 3 * vRk S (sF S o).toNat + 4 ≤ n) → (tells S (vV S ty tx) (sB S p)).length ≤ 400 → ∀ r q m, (∀ o, o < sN S → sP S o = p → vRk S (sF S o).toNat < r) → q + 400 * r + 800 ≤ 6000 → mRi S ty tx μ0 r m → zI m 292 29 = (q : Nat) → zok (f7_writesBody n (mFirst μ0 b k p) (mEnd μ0 b k p) m) (fun m' => mRi S ty tx μ0 r m' ∧ oW m q (tells S (vV S ty tx) (sB S p)) m' ∧ mKp S r m m')
theorem m_lv (hC : mCx μ0 b k S ty sa) (hV : mShown S ty μ0) (hX : mTxs μ0 ty tx sa) (hl : ∀ f, f < 10 → (tx f).length ≤ 40) (hTX : vTL S ty (fun f => (tx f).length) ≤ 400) {n : Nat} (ihB : cWB b k S ty tx μ0 n) : cLV S ty tx μ0 (n + 1) := by
  intro f hf hn r q m hr hq hI ho
  have hW := hC.2.2.2.2.2.2.2
  obtain ⟨hF, hMe, hLd⟩ := hI
  have hC' := hF.cx hC
  obtain ⟨c1, c2, c3, c4, c5, c6, c7, c8⟩ := hC'
  obtain ⟨b1, b2, b3, b4, b5, b6, b7, b8, b9, b10, b11, b12, b13⟩ := okB_f c1
  have hvl := (mV_len hW hl hTX hf).2
  show zok (f7_laysValue_o (fGB n).1 (fGB n).2.1 (fGB n).2.2 (f : Int) m) _
  unfold f7_laysValue_o
  refine zok_gd ⟨by omega, by rw [zl_m2.2.2.2.2.1]; omega⟩ (zok_if (fun h0 => ?_) (fun h0 => ?_))
  · refine zok_gd ⟨⟨by omega, by rw [zl_m2.2.2.2.2.1]; omega⟩, Or.inr rfl⟩ (zok_lt (zok_lt ?_))
    have h29 : zI (zsI m 335 f 1) 292 29 = (q : Int) := (zI_nk (by decide)).trans ho
    rw [zx_nat, h29]
    have hF1 : mRf μ0 (zsI m 335 f 1) := ⟨hF.1.sI (fun q => q.2.2.2.2 rfl), fun i => hF.2.1 i, fun i hi => (zI_nk (by decide)).trans (hF.2.2 i hi)⟩
    have hI1 : mRi S ty tx μ0 (vRk S f) (zsI m 335 f 1) := ⟨hF1, fun g hg => by rw [zI_nk (by decide)]; exact hMe g hg, fun g hg hg2 => by
      have e : g ≠ f := fun e => by rw [e] at hg2; omega
      unfold mFil
      rw [zI_ni e]
      rcases hLd g hg (by omega) with h | h
      · exact Or.inl h
      · exact Or.inr ⟨h.1, fun i hi => (zI_nk (by decide)).trans (h.2 i hi)⟩⟩
    -- what is written comes into the field's row
    have fin : ∀ m2, mRi S ty tx μ0 (vRk S f) m2 → oW (zsI m 335 f 1) q (vV S ty tx f) m2 → mKp S (vRk S f) (zsI m 335 f 1) m2 → zok (zfx (f7_laysValue_143 (fGB n).1 (fGB n).2.1 (fGB n).2.2 (f : Int)) (fun _ _ _ => none) zFu (q : Int) (q : Int) m2) (fun m' => mRi S ty tx μ0 r m' ∧ zI m' 292 29 = (q : Nat) ∧ (∀ i, i < q → zI m' 333 i = zI m 333 i) ∧ mKp S r m m' ∧ mFil (vV S ty tx) m' f) := by
      intro m2 hI2 hW2 hK2
      refine zok_mono (m_143 hf hvl (by omega) hW2) (fun m3 h3 => ?_)
      obtain ⟨a1, a2, a3, a4, a5, a6⟩ := h3
      have hfil : mFil (vV S ty tx) m3 f := by
        refine ⟨?_, a5⟩
        rw [(a1 335 (by decide) f).1, (hK2 f hf (Nat.le_refl _)).1, zI_eq rfl rfl]
      refine ⟨⟨⟨hI2.1.1.tr (a1.mono (fun c hc => ⟨hc.1, hc.2.2.2.1⟩)), fun i => (a2 i).trans (hI2.1.2.1 i), fun i hi => (a3 i hi).trans (hI2.1.2.2 i hi)⟩, fun g hg => ?_, fun g hg hg2 => ?_⟩, a4, fun i hi => ?_, fun g hg hg2 => ?_, hfil⟩
      · rw [(a1 332 (by decide) g).1]; exact hI2.2.1 g hg
      · by_cases e : g = f
        · rw [e]; exact Or.inr hfil
        · have hgl := (mV_len hW hl hTX hg).2
          unfold mFil
          rw [(a1 335 (by decide) g).1]
          by_cases e2 : vRk S g < vRk S f
          · rcases hI2.2.2 g hg e2 with h | h
            · exact Or.inl h
            · exact Or.inr ⟨h.1, fun i hi => (a6 _ (by omega)).trans (h.2 i hi)⟩
          · have hk := hK2 g hg (by omega)
            rw [hk.1, zI_ni e]
            rcases hLd g hg hg2 with h | h
            · exact Or.inl h
            · exact Or.inr ⟨h.1, fun i hi => (a6 _ (by omega)).trans ((hk.2 i (by omega)).trans ((zI_nk (by decide)).trans (h.2 i hi)))⟩
      · rw [(a1 333 (by decide) i).1, hW2.2.2 i hi, zI_nk (by decide)]
      · have e : g ≠ f := fun e => by rw [e] at hg2; omega
        have hk := hK2 g hg (by omega)
        exact ⟨((a1 335 (by decide) g).1).trans (hk.1.trans (zI_ni e)), fun i hi => (a6 _ (by omega)).trans ((hk.2 i hi).trans (zI_nk (by decide)))⟩
    refine zok_co (m_isTyped (hF1.cx hC) (f : Int) (by omega) (by omega)) (fun x hx => ?_)
    rw [show ((f : Int)).toNat = f from rfl] at hx
    subst hx
    have h331 : zI (zsI m 335 f 1) 331 f = vSd S ty f := ((hF1.sh hV).2.1 f hf)
    cases hT : ty f with
    | false =>
      refine zok_t rfl (zok_gd ⟨by omega, by rw [zl_m2.1]; omega⟩ ?_)
      rw [h331]
      refine zok_if (fun hd => ?_) (fun hd => ?_)
      · refine fin _ hI1 ?_ (mKp.sm (fun _ => rfl) (fun _ => rfl))
        have e : vV S ty tx f = [] := by rw [vV_eq hW ty tx hf, if_pos hd, hT]; rfl
        rw [e]
        exact ⟨(zI_nk (by decide)).trans ho, fun i hi => absurd hi (Nat.not_lt_zero i), fun i _ => rfl⟩
      · obtain ⟨o, p1, p2, p3, p4, p5, p6, p7⟩ := vSd_part hd
        have hn60 := hW.1
        have hm := hC.2.2.2.2.2.2.1.2.2.2.2.2.2 _ p7
        have ev : vV S ty tx f = tells S (vV S ty tx) (sB S (o : Int)) := by rw [vV_eq hW ty tx hf, if_neg hd, p1]
        rw [p1] at hm ⊢
        refine zok_gd ⟨by omega, by rw [zl_m2.1]; omega⟩ (zok_co (m_of (hF1.cx hC) (show o < 60 by omega)) (fun x hx => ?_))
        subst hx
        have e0 : ∀ c, c ≠ 292 → c ≠ 332 → c ≠ 333 → c ≠ 334 → c ≠ 335 → ∀ i, zI (zsI m 335 f 1) c i = zI μ0 c i := fun c h1 h2 h3 h4 h5 i => (hF1.1 c ⟨h1, h2, h3, h4, h5⟩ i).1
        have eF : zI (zsI m 335 f 1) (b + 10) (60 * k + o) + 1 = mFirst μ0 b k (o : Int) := by rw [e0 _ (by omega) (by omega) (by omega) (by omega) (by omega)]; unfold mFirst; rw [if_neg (by omega)]; rfl
        have eE : zI (zsI m 335 f 1) (b + 11) (60 * k + o) = mEnd μ0 b k (o : Int) := by rw [e0 _ (by omega) (by omega) (by omega) (by omega) (by omega)]; unfold mEnd; rw [if_neg (by omega)]; rfl
        rw [zR_sI, c3, b10, b11, zx_nat, eF, eE]
        refine zok_gd ⟨by omega, by omega⟩ (zok_gl ⟨by omega, by omega⟩ (zok_gd ⟨by omega, by omega⟩ ?_))
        have hrk : ∀ o2, o2 < sN S → sP S o2 = (o : Int) → vRk S (sF S o2).toNat < vRk S f := fun o2 ho2 hp2 => by
          have g3 := hW.2.2.2.1 o2 ho2
          have h9 := hW.2.2.2.2.2.2.1 o2 o ho2 hp2
          rw [p6] at h9
          exact vRk_lt hW hf (show (sF S o2).toNat < 10 by omega) h9
        refine zok_cm (ihB (o : Int) (by rw [← p1]; exact p7) (by omega) (fun o2 ho2 hp2 => by have := hrk o2 ho2 hp2; omega) (by rw [← ev]; exact hvl) (vRk S f) q _ hrk (by omega) hI1 ((zI_nk (by decide)).trans ho)) (fun m2 h2 => ?_)
        rw [← ev] at h2
        exact fin m2 h2.1 h2.2.1 h2.2.2
    | true =>
      refine zok_f (by decide) ?_
      have hd : vSd S ty f = -1 := by
        rcases Decidable.em (vSd S ty f = -1) with h | h
        · exact h
        · obtain ⟨o, p1, p2, p3, p4, p5, p6, p7⟩ := vSd_part h
          rw [hT] at p5; cases p5
      have ev : vV S ty tx f = tx f := by rw [vV_eq hW ty tx hf, if_pos hd, hT]; rfl
      rcases c6 with ⟨q1, q2⟩ | ⟨q1, q2, q3⟩
      · rw [q2 f hf] at hT; cases hT
      · have hx2 := hF1.txs hX f hf hT
        refine m_32 (tx := tx) hf ⟨q1, q2⟩ ((zI_nk (by decide)).trans c5) hx2.1 hx2.2 (hl f hf) (by omega) ((zI_nk (by decide)).trans ho) (fun m' hw ho' => fin m' (hI1.oF ho') ?_ (mKp.oF ho'))
        rw [ev]; exact hw
  · refine zok_some ⟨⟨hF, hMe, hLd⟩, ho, fun i _ => rfl, mKp.sm (fun _ => rfl) (fun _ => rfl), ?_⟩
    rcases hLd f hf hr with h | h
    · exact absurd (by rw [zx_nat]; exact h) h0
    · exact h
theorem m_wv (hC : mCx μ0 b k S ty sa) (hV : mShown S ty μ0) (hX : mTxs μ0 ty tx sa) (hl : ∀ f, f < 10 → (tx f).length ≤ 40) (hTX : vTL S ty (fun f => (tx f).length) ≤ 400) {n : Nat} (ihL : cLV S ty tx μ0 n) : cWV S ty tx μ0 (n + 1) := by
  intro f hf hn r q m hr hq hI ho
  have hW := hC.2.2.2.2.2.2.2
  obtain ⟨hvl, hv4⟩ := mV_len hW hl hTX hf
  show zok (f7_writesValue_o (fGB n).1 (fGB n).2.1 (fGB n).2.2 (f : Int) m) _
  unfold f7_writesValue_o
  refine zok_cm (ihL f hf (by omega) r q m hr hq hI ho) (fun m1 h1 => ?_)
  obtain ⟨i1, i2, i3, i4, i5⟩ := h1
  refine zok_cl (m_valueLength (ln := fun f => (tx f).length) (i1.1.cx hC) (i1.1.sh hV) (fun g hg hT => (i1.1.txs hX g hg hT).1) (fun g hg => Nat.le_trans (hl g hg) (by decide)) hf (⟨zSm.rf, i1.2.1⟩ : mJ S ty (fun f => (tx f).length) m1 m1)) (fun x m2 hx => ?_)
  obtain ⟨hx1, hx2, hx3⟩ := hx
  have hx1' : x = ((vV S ty tx f).length : Int) := by rw [← hvl]; exact hx1
  subst hx1'
  have r2 : ∀ c, c ≠ 332 → ∀ i, zI m2 c i = zI m1 c i := fun c hc i => (hx2 c hc i).1
  have hI2 : mRi S ty tx μ0 r m2 := by
    refine ⟨⟨i1.1.1.tr (hx2.mono (fun c hc => hc.2.1)), fun i => ((hx2 292 (by decide) i).2.2).trans (i1.1.2.1 i), fun i hi => (r2 292 (by decide) i).trans (i1.1.2.2 i hi)⟩, hx3, fun g hg hg2 => ?_⟩
    unfold mFil
    rw [r2 335 (by decide)]
    rcases i1.2.2 g hg hg2 with h | h
    · exact Or.inl h
    · exact Or.inr ⟨h.1, fun i hi => (r2 334 (by decide) _).trans (h.2 i hi)⟩
  have hK2 : mKp S r m m2 := i4.tr (mKp.sm (fun i => r2 335 (by decide) i) (fun i => r2 334 (by decide) i))
  have hrow : ∀ i, i < (vV S ty tx f).length → zI m2 334 (410 * f + i) = (vV S ty tx f).getD i 0 := fun i hi => (r2 334 (by decide) _).trans (i5.2 i hi)
  refine zok_x3 (fun x2 x3 m' => x2 = ((vV S ty tx f).length : Int) ∧ ∃ j : Nat, x3 = (j : Int) ∧ j ≤ (vV S ty tx f).length ∧ oF m2 m' ∧ oW m q ((vV S ty tx f).take j) m') (fun _ x3 _ => 400 - x3.toNat) (fun kk x2 x3 m' hx ih => ?_) zFu _ _ m2 ⟨rfl, 0, rfl, by omega, ⟨zSm.rf, fun _ => rfl, fun _ _ => rfl⟩, (r2 292 (by decide) 29).trans i2, fun i hi => absurd hi (Nat.not_lt_zero i), fun i hi => (r2 333 (by decide) i).trans (i3 i hi)⟩ (by show 400 - 0 < 100000; omega)
  obtain ⟨rfl, j, rfl, g1, g2, g3⟩ := hx
  have hlj : ((vV S ty tx f).take j).length = j := by rw [List.length_take]; omega
  unfold f7_writesValue_13
  refine zok_if (fun h9 => zok_some ⟨hI2.oF g2, ?_, hK2.tr (mKp.oF g2)⟩) (fun h9 => ?_)
  · rw [List.take_of_length_le (by omega)] at g3; exact g3
  · refine zok_gl ⟨by omega, by omega⟩ (zok_gl ⟨by omega, by omega⟩ (zok_gd ⟨by omega, by rw [zl_m2.2.2.2.1]; omega⟩ ?_))
    rw [g3.1, hlj, zx_nat, show zx (410 * (f : Int) + (j : Int)) = 410 * f + j from by show (410 * (f : Int) + (j : Int)).toNat = _; omega, (g2.1 334 (by decide) _).1, hrow j (by omega)]
    refine zok_gd ⟨by omega, by rw [zl_m2.2.2.1]; omega⟩ (zok_lt ?_)
    rw [zI_nk (by decide), g3.1, hlj]
    refine zok_gl ⟨by omega, by omega⟩ (zok_lt (zok_gl ⟨by omega, by omega⟩ (ih _ _ _ ⟨rfl, j + 1, by omega, by omega, g2.put _ _ _, ?_⟩ (by show 400 - ((j : Int) + 1).toNat < 400 - (j : Int).toNat; omega))))
    rw [gd_take _ (by omega)]
    have := oW_put (x := (vV S ty tx f).getD j 0) (e := ((q + j : Nat) : Int) + 1) g3 (by rw [hlj]; omega)
    rw [hlj] at this
    exact this
theorem m_wb (hC : mCx μ0 b k S ty sa) (hl : ∀ f, f < 10 → (tx f).length ≤ 40) (hTX : vTL S ty (fun f => (tx f).length) ≤ 400) {n : Nat} (ihV : cWV S ty tx μ0 n) : cWB b k S ty tx μ0 (n + 1) := by
  intro p hp _ hn h4 r q m hrk hq hI ho
  have hm0 := hC.2.2.2.2.2.2.1.2.2.2.2.2.2 p hp
  have hW := hC.2.2.2.2.2.2.2
  have hn60 := hW.1
  show zok (f7_writesBody_o (fGB n).1 (fGB n).2.1 (fGB n).2.2 (mFirst μ0 b k p) (mEnd μ0 b k p) m) _
  unfold f7_writesBody_o
  refine zok_x2 (fun x3 m' => mRi S ty tx μ0 r m' ∧ mKp S r m m' ∧ ∃ pre suf : List Int, sB S p = pre ++ suf ∧ pWk μ0 b k x3 (mEnd μ0 b k p) suf ∧ oW m q (tells S (vV S ty tx) pre) m' ∧ 0 ≤ x3) (fun x3 _ => (mEnd μ0 b k p - x3).toNat) (fun kk x3 m' hx ih => ?_) zFu (mFirst μ0 b k p) m ⟨hI, mKp.sm (fun _ => rfl) (fun _ => rfl), [], sB S p, rfl, hm0.2.2.2, ⟨ho, fun i hi => absurd hi (Nat.not_lt_zero i), fun i _ => rfl⟩, hm0.1⟩ (by show (mEnd μ0 b k p - mFirst μ0 b k p).toNat < 100000; omega)
  obtain ⟨hI', hK', pre, suf, e1, e2, e3, e4⟩ := hx
  have hC' := hI'.1.cx hC
  obtain ⟨c1, c2, c3, c4, c5, c6, c7, c8⟩ := hC'
  obtain ⟨b1, b2, b3, b4, b5, b6, b7, b8, b9, b10, b11, b12, b13⟩ := okB_f c1
  have r0 : ∀ c, 292 < c → c < 329 → ∀ i, zI m' c i = zI μ0 c i := fun c h1 h2 i => (hI'.1.1 c (by omega) i).1
  unfold f7_writesBody_2
  cases suf with
  | nil =>
    have e5 : x3 = mEnd μ0 b k p := e2
    refine zok_t (by omega) (zok_some ⟨hI', ?_, hK'⟩)
    rw [e1, List.append_nil]; exact e3
  | cons x l =>
    obtain ⟨g1, g2, g3⟩ := e2
    have hx := hW.2.2.2.2.2.2.2.1 p hp
    have hxm : x ∈ sB S p := by rw [e1]; exact List.mem_append_right _ List.mem_cons_self
    have hxr := hx.2.1 x hxm
    have e6 : sB S p = (pre ++ [x]) ++ l := by rw [e1]; simp
    have hpl : (tells S (vV S ty tx) pre).length + (tell1 S (vV S ty tx) x).length ≤ 400 := by
      have h9 := h4
      rw [e1, tells_app] at h9
      rw [List.length_append] at h9
      have h10 : (tells S (vV S ty tx) (x :: l)).length = (tell1 S (vV S ty tx) x).length + (tells S (vV S ty tx) l).length := List.length_append
      omega
    refine zok_f (by omega) ?_
    rw [c3, b4]
    refine zok_gd ⟨by omega, by omega⟩ (zok_lt ?_)
    rw [show zx x3 = x3.toNat from rfl, r0 (b + 4) (by omega) (by omega)]
    rcases g3 with ⟨q1, q2, q3⟩ | ⟨q1, q2, q3, q4⟩
    · rw [q2, e3.1]
      refine zok_t (by omega) (zok_gd ⟨by omega, by rw [zl_m2.2.2.1]; omega⟩ (zok_lt ?_))
      rw [zx_nat, zI_nk (by decide), e3.1]
      have hoF : oF m' (zsI (zsI m' 333 (q + (tells S (vV S ty tx) pre).length) x) 292 29 (((q + (tells S (vV S ty tx) pre).length : Nat) : Int) + 1)) := oF.put ⟨zSm.rf, fun _ => rfl, fun _ _ => rfl⟩ _ _ _
      refine zok_gl ⟨by omega, by omega⟩ (zok_lt (zok_gl ⟨by omega, by omega⟩ (ih _ _ ⟨hI'.oF hoF, hK'.tr (mKp.oF hoF), pre ++ [x], l, e6, q3, ?_, by omega⟩ (by show (mEnd μ0 b k p - (x3 + 1)).toNat < (mEnd μ0 b k p - x3).toNat; omega))))
      have e7 : tells S (vV S ty tx) [x] = [x] := by show tell1 S _ x ++ [] = _; unfold tell1; rw [if_pos q1]; rfl
      rw [tells_app, e7]
      exact oW_put e3 (by omega)
    · obtain ⟨o1, o2⟩ := body_occ hW hp hxm q1
      have hf := hW.2.2.2.1 _ o1
      have hxo := hC.2.2.2.2.2.2.1.2.2.2.1 _ o1
      have hr1 := hrk _ o1 o2
      rw [q2]
      refine zok_f (by omega) (zok_gl ⟨by omega, by omega⟩ ?_)
      rw [show (1000 + (-x - 1) - 1000 : Int) = (((-x - 1).toNat : Nat) : Int) by omega]
      refine zok_co (m_of (hI'.1.cx hC) (show (-x - 1).toNat < 60 by omega)) (fun y hy => zok_lt ?_)
      subst hy
      rw [b6, zx_nat, r0 (b + 6) (by omega) (by omega), hxo.1, e3.1]
      have hv := ihV (sF S (-x - 1).toNat).toNat (by omega) (by have := hn _ o1 o2; omega) r (q + (tells S (vV S ty tx) pre).length) m' hr1 (by omega) hI' e3.1
      rw [show (((sF S (-x - 1).toNat).toNat : Nat) : Int) = sF S (-x - 1).toNat by omega] at hv
      refine zok_gd ⟨by omega, by omega⟩ (zok_cm hv (fun m3 h3 => ?_))
      obtain ⟨j1, j2, j3⟩ := h3
      have hC3 := j1.1.cx hC
      have r3 : ∀ c, 292 < c → c < 329 → ∀ i, zI m3 c i = zI μ0 c i := fun c h1 h2 i => (j1.1.1 c (by omega) i).1
      rw [hC3.2.2.1, b7, r3 (b + 7) (by omega) (by omega), hxo.2.1]
      refine zok_gd ⟨by omega, by omega⟩ (zok_cm (m_changes (mV_len hW hl hTX (show (sF S (-x - 1).toNat).toNat < 10 by omega)).2 (by omega) (⟨j2.1, j2.2.1, fun _ _ => rfl⟩ : oW m3 _ _ m3) (⟨zSm.rf, fun _ => rfl, fun _ _ => rfl⟩ : oF m3 m3) (sC S (-x - 1).toNat)) (fun m4 h4 => ?_))
      obtain ⟨k1, k2⟩ := h4
      have hI4 := j1.oF k2
      have hC4 := hI4.1.cx hC
      have r4 : ∀ c, 292 < c → c < 329 → ∀ i, zI m4 c i = zI μ0 c i := fun c h1 h2 i => (hI4.1.1 c (by omega) i).1
      rw [hC4.2.2.1, b11, r4 (b + 11) (by omega) (by omega)]
      have hE : zI μ0 (b + 11) (60 * k + (-x - 1).toNat) + 1 ≤ mEnd μ0 b k p := by
        cases l with
        | nil => exact Int.le_of_eq q4
        | cons y l => exact Int.le_of_lt q4.2.1
      refine zok_gd ⟨by omega, by omega⟩ (zok_gl ⟨by omega, by omega⟩ (ih _ _ ⟨hI4, hK'.tr (j3.tr (mKp.oF k2)), pre ++ [x], l, e6, q4, ?_, by omega⟩ (by show (mEnd μ0 b k p - _).toNat < (mEnd μ0 b k p - x3).toNat; omega)))
      have e7 : tells S (vV S ty tx) [x] = chgB (sC S (-x - 1).toNat) (vV S ty tx (sF S (-x - 1).toNat).toNat) := by show tell1 S _ x ++ [] = _; unfold tell1; rw [if_neg (by omega), List.append_nil]
      rw [tells_app, e7]
      exact oW_app e3 ⟨k1.1, k1.2.1, fun i hi => (k1.2.2 i hi).trans (j2.2.2 i hi)⟩
theorem m_GB (hC : mCx μ0 b k S ty sa) (hV : mShown S ty μ0) (hX : mTxs μ0 ty tx sa) (hl : ∀ f, f < 10 → (tx f).length ≤ 40) (hTX : vTL S ty (fun f => (tx f).length) ≤ 400) : ∀ n : Nat, cLV S ty tx μ0 n ∧ cWV S ty tx μ0 n ∧ cWB b k S ty tx μ0 n := by
  intro n
  induction n with
  | zero => exact ⟨fun f _ h => by omega, fun f _ h => by omega, fun p _ h => by omega⟩
  | succ n ih => exact ⟨m_lv hC hV hX hl hTX ih.2.2, m_wv hC hV hX hl hTX ih.1, m_wb hC hl hTX ih.2.1⟩
/-- what was laid by shows(): no length, no value yet -/
def mFresh (m : zM) : Prop := ∀ f, f < 10 → zI m 332 f = -1 ∧ zI m 335 f = 0
theorem m_writesValue (hC : mCx μ0 b k S ty sa) (hV : mShown S ty μ0) (hX : mTxs μ0 ty tx sa) (hl : ∀ f, f < 10 → (tx f).length ≤ 40) (hTX : vTL S ty (fun f => (tx f).length) ≤ 400) (hN : mMe S ty tx μ0) (h335 : ∀ f, f < 10 → zI μ0 335 f = 0) (ho : zI μ0 292 29 = 0) {f : Nat} (hf : f < 10) : zok (f7_writesValue 40 (f : Int) μ0) (fun m => mRf μ0 m ∧ mMe S ty tx m ∧ oW μ0 0 (vV S ty tx f) m) := by
  have := vRk_le hC.2.2.2.2.2.2.2 hf
  exact zok_mono ((m_GB hC hV hX hl hTX 40).2.1 f hf (by omega) 10 0 μ0 (by omega) (by omega) ⟨⟨zSm.rf, fun _ => rfl, fun _ _ => rfl⟩, hN, fun g hg _ => Or.inl (h335 g hg)⟩ ho) (fun m h => ⟨h.1.1, h.1.2.1, h.2.1⟩)
theorem m_writesText (hC : mCx μ0 b k S ty sa) (hV : mShown S ty μ0) (hX : mTxs μ0 ty tx sa) (hl : ∀ f, f < 10 → (tx f).length ≤ 40) (hTX : vTL S ty (fun f => (tx f).length) ≤ 400) (hN : mMe S ty tx μ0) (h335 : ∀ f, f < 10 → zI μ0 335 f = 0) : zok (f7_writesText μ0) (fun m => mRf μ0 m ∧ mMe S ty tx m ∧ zI m 292 29 = ((vTx S ty tx).length : Int) ∧ ∀ i, i < (vTx S ty tx).length → zI m 333 i = (vTx S ty tx).getD i 0) := by
  have hW := hC.2.2.2.2.2.2.2
  have hF : mRf μ0 (zsI μ0 292 29 0) := ⟨zSm.rf.sI (fun q => q.1 rfl), fun _ => rfl, fun i hi => zI_ni hi⟩
  have hC' := hF.cx hC
  obtain ⟨c1, c2, c3, c4, c5, c6, c7, c8⟩ := hC'
  obtain ⟨b1, b2, b3, b4, b5, b6, b7, b8, b9, b10, b11, b12, b13⟩ := okB_f c1
  unfold f7_writesText
  refine zok_lt ?_
  rw [c4, c3, b3]
  refine zok_gd ⟨by omega, by omega⟩ (zok_gl ⟨by omega, by omega⟩ (zok_gd ⟨by omega, by omega⟩ ?_))
  rw [zx_nat, show zx ((k : Int) + 1) = k + 1 from by show ((k : Int) + 1).toNat = _; omega, zI_nk (show b + 3 ≠ 292 by omega), zI_nk (show b + 3 ≠ 292 by omega)]
  have hrk : ∀ o, o < sN S → vRk S (sF S o).toNat < 10 := fun o ho => by
    have := hW.2.2.2.1 o ho
    exact vRk_le hW (by omega)
  have h := (m_GB hC hV hX hl hTX 40).2.2 (-1) (Or.inl rfl) (by omega) (fun o ho _ => by have := hrk o ho; omega) (by
    have e := vTx_len S ty tx
    unfold vTx at e
    omega) 10 0 (zsI μ0 292 29 0) (fun o ho _ => hrk o ho) (by omega) ⟨hF, fun g hg => by rw [zI_nk (by decide)]; exact hN g hg, fun g hg _ => Or.inl ((zI_nk (by decide)).trans (h335 g hg))⟩ (zI_eq rfl rfl)
  rw [show mFirst μ0 b k (-1) = zI μ0 (b + 3) k from if_pos rfl, show mEnd μ0 b k (-1) = zI μ0 (b + 3) (k + 1) from if_pos rfl] at h
  refine zok_cm h (fun m h => zok_some ⟨h.1.1, h.1.2.1, ?_, fun i hi => ?_⟩)
  · have := h.2.1.1
    rw [Nat.zero_add] at this
    exact this
  · have := h.2.1.2.1 i hi
    rw [Nat.zero_add] at this
    exact this
end mVal
