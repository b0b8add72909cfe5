/-! THE WHOLE STATE, as both sides hold it: snippets, sessions, what can be undone (the latest first), what is saved, the buffer, the latest error, the accounts -/
abbrev zA : Type := Nat × (Nat → zSn) × zSt × List zSt × (Nat → Option zSt) × List Int × (Int × Int) × (Nat → Int)
def aN (A : zA) : Nat := A.1
def aL (A : zA) : Nat → zSn := A.2.1
def aS (A : zA) : zSt := A.2.2.1
def aU (A : zA) : List zSt := A.2.2.2.1
def aV (A : zA) : Nat → Option zSt := A.2.2.2.2.1
def aB (A : zA) : List Int := A.2.2.2.2.2.1
def aE (A : zA) : Int × Int := A.2.2.2.2.2.2.1
def aC (A : zA) : Nat → Int := A.2.2.2.2.2.2.2
def hS (L : Nat → zSn) (s : zSt) (l : Nat) : zSn := L (tS s l).toNat
def hT (s : zSt) (l : Nat) : Nat → Bool := fun f => mbit (tY s l) f
def hN (s : zSt) (l : Nat) : Nat → Nat := fun f => (tX s l f).length
def hTL (L : Nat → zSn) (s : zSt) (l : Nat) : Nat := vTL (hS L s l) (hT s l) (hN s l)
def wLv (n : Nat) (L : Nat → zSn) (s : zSt) : Prop := wSt s ∧ ∀ l, l < tD s → 0 ≤ tS s l ∧ tS s l < n ∧ (vLv (hS L s l) (hT s l) (tC s l).toNat = true ∧ 0 ≤ tC s l) ∧ hTL L s l ≤ 400
def wA (c : Int) (A : zA) : Prop := (aN A ≤ 8 ∧ ∀ k, k < aN A → wS (aL A k)) ∧ wLv (aN A) (aL A) (aS A) ∧ ((aU A).length ≤ 8 ∧ ∀ s ∈ aU A, wLv (aN A) (aL A) s) ∧ (∀ j s, aV A j = some s → wLv (aN A) (aL A) s) ∧ ((aB A).length ≤ 700 ∧ ∀ x ∈ aB A, 1 ≤ x ∧ x ≤ 255) ∧ ∀ i, i < 10 → 0 ≤ aC A i ∧ aC A i ≤ c
/-! the class's cells -/
def rC (A : zA) (μ : zM) : Prop :=
  (∃ t : Nat, (t = 7 ∨ t = 101) ∧ zR μ 1 2 = t ∧ zR μ 99 3 = 108 - t ∧ zI μ t 1 = aN A ∧ ∀ k, k < aN A → pSc μ (t + 4 + 11 * k) (aL A k)) ∧
  pSt μ 193 (aS A) ∧ (zI μ 1 1 = (aB A).length ∧ ∀ i, i < (aB A).length → zI μ 2 i = (aB A).getD i 0) ∧
  (zI μ 1 4 = (aE A).1 ∧ zI μ 1 5 = (aE A).2) ∧ (∀ i, i < 10 → zI μ 3 i = aC A i) ∧
  (∃ n : Nat, n < 8 ∧ zI μ 1 9 = n ∧ zI μ 1 10 = (aU A).length ∧ ∀ j s, (aU A)[j]? = some s → pSt μ (222 + 7 * ((n + 7 - j) % 8)) s) ∧
  ∀ j, j < 2 → (zI μ 6 j = 0 ∧ aV A j = none) ∨ (zI μ 6 j = 1 ∧ ∃ s, aV A j = some s ∧ pSt μ (278 + 7 * j) s)
theorem okT_lib : ∀ k, k < 8 → okT (7 + 4 + 11 * k) ∧ okT (101 + 4 + 11 * k) := by
  have h : ∀ k, k < 8 → (zkd (7 + 4 + 11 * k) = 2 ∧ 7 + 4 + 11 * k < 193) ∧ (zkd (101 + 4 + 11 * k) = 2 ∧ 101 + 4 + 11 * k < 193) := by decide +kernel
  exact h
theorem okT_k {t k : Nat} (ht : t = 7 ∨ t = 101) (hk : k < 8) : okT (t + 4 + 11 * k) := by
  rcases ht with rfl | rfl
  · exact (okT_lib k hk).1
  · exact (okT_lib k hk).2
theorem okC_all : okC 193 ∧ (∀ j, j < 8 → okC (222 + 7 * j)) ∧ ∀ j, j < 2 → okC (278 + 7 * j) := by
  have h : zkd 193 = 3 ∧ (∀ j, j < 8 → zkd (222 + 7 * j) = 3) ∧ ∀ j, j < 2 → zkd (278 + 7 * j) = 3 := by decide +kernel
  exact h
/-- the cells of the class that stay, but for its view -/
def cV (c : Nat) : Prop := c < 200 ∨ (208 < c ∧ c < 292)
theorem rC.keep {A : zA} {μ m : zM} (hn : aN A ≤ 8) (h : zSm cV μ m) (hr : rC A μ) : rC A m := by
  obtain ⟨⟨t, t1, t2, t3, t4, t5⟩, h2, h3, h4, h5, ⟨n, n1, n2, n3, n4⟩, h7⟩ := hr
  have e : ∀ c, cV c → ∀ i, zI m c i = zI μ c i := fun c hc i => (h c hc i).1
  have e1 : ∀ c, cV c → ∀ i, zR m c i = zR μ c i := fun c hc i => (h c hc i).2.2
  refine ⟨⟨t, t1, (e1 1 (by unfold cV; omega) 2).trans t2, (e1 99 (by unfold cV; omega) 3).trans t3, (e t (by unfold cV; omega) 1).trans t4, fun k hk => pSc_v (okT_k t1 (by omega)) h (fun c hc => by unfold cV; omega) (t5 k hk)⟩, pSt_keep (fun k k1 k2 => e k (by unfold cV; omega)) h2, ⟨(e 1 (by unfold cV; omega) 1).trans h3.1, fun i hi => (e 2 (by unfold cV; omega) i).trans (h3.2 i hi)⟩, ⟨(e 1 (by unfold cV; omega) 4).trans h4.1, (e 1 (by unfold cV; omega) 5).trans h4.2⟩, fun i hi => (e 3 (by unfold cV; omega) i).trans (h5 i hi), ⟨n, n1, (e 1 (by unfold cV; omega) 9).trans n2, (e 1 (by unfold cV; omega) 10).trans n3, fun j s hj => pSt_keep (fun k k1 k2 => e k (by unfold cV; omega)) (n4 j s hj)⟩, fun j hj => ?_⟩
  rcases h7 j hj with ⟨g1, g2⟩ | ⟨g1, s, g2, g3⟩
  · exact Or.inl ⟨(e 6 (by unfold cV; omega) j).trans g1, g2⟩
  · exact Or.inr ⟨(e 6 (by unfold cV; omega) j).trans g1, s, g2, pSt_keep (fun k k1 k2 => e k (by unfold cV; omega)) g3⟩
/-! the reference's cells -/
def pMs (μ : zM) (c off : Nat) (s : zSt) : Prop :=
  zI μ c off = tD s ∧ zI μ c (off + 1) = tO s ∧ zI μ c (off + 2) = (tDoc s).length ∧
  (∀ i, i < (tDoc s).length → zI μ c (off + 4 + i) = (tDoc s).getD i 0) ∧
  ∀ l, l < tD s → zI μ c (off + 604 + 413 * l) = tS s l ∧ zI μ c (off + 604 + 413 * l + 1) = tC s l ∧ zI μ c (off + 604 + 413 * l + 2) = tY s l ∧
    ∀ f, f < 10 → zI μ c (off + 604 + 413 * l + 3 + f) = (tX s l f).length ∧ ∀ i, i < (tX s l f).length → zI μ c (off + 604 + 413 * l + 13 + 40 * f + i) = (tX s l f).getD i 0
theorem pMs_row {μ m : zM} {c c' off off' : Nat} {s : zSt} (hW : wSt s) (h : ∀ i, i < 2256 → zI m c' (off' + i) = zI μ c (off + i)) (hs : pMs μ c off s) : pMs m c' off' s := by
  obtain ⟨a1, a2, a3, a4, a5⟩ := hs
  obtain ⟨w1, w2, w3, w4⟩ := hW
  refine ⟨(h 0 (by omega)).trans a1, (h 1 (by omega)).trans a2, (h 2 (by omega)).trans a3, fun i hi => ?_, fun l hl => ⟨?_, ?_, ?_, fun f hf => ⟨?_, fun i hi => ?_⟩⟩⟩
  · have := h (4 + i) (by omega)
    rw [← Nat.add_assoc, ← Nat.add_assoc] at this
    exact this.trans (a4 i hi)
  · have := h (604 + 413 * l) (by omega)
    rw [← Nat.add_assoc, ← Nat.add_assoc] at this
    exact this.trans (a5 l hl).1
  · have := h (604 + 413 * l + 1) (by omega)
    rw [← Nat.add_assoc, ← Nat.add_assoc, ← Nat.add_assoc, ← Nat.add_assoc] at this
    exact this.trans (a5 l hl).2.1
  · have := h (604 + 413 * l + 2) (by omega)
    rw [← Nat.add_assoc, ← Nat.add_assoc, ← Nat.add_assoc, ← Nat.add_assoc] at this
    exact this.trans (a5 l hl).2.2.1
  · have := h (604 + 413 * l + 3 + f) (by omega)
    rw [← Nat.add_assoc, ← Nat.add_assoc, ← Nat.add_assoc, ← Nat.add_assoc, ← Nat.add_assoc, ← Nat.add_assoc] at this
    exact this.trans ((a5 l hl).2.2.2 f hf).1
  · have hx := ((w4 l hl).2.2.2.2 f hf).1
    have := h (604 + 413 * l + 13 + 40 * f + i) (by omega)
    rw [← Nat.add_assoc, ← Nat.add_assoc, ← Nat.add_assoc, ← Nat.add_assoc, ← Nat.add_assoc, ← Nat.add_assoc, ← Nat.add_assoc, ← Nat.add_assoc] at this
    exact this.trans (((a5 l hl).2.2.2 f hf).2 i hi)
def rM (A : zA) (μ : zM) : Prop :=
  (∃ b : Nat, okB b ∧ zR μ 292 8 = b ∧ zR μ 292 13 = 613 - b ∧ zI μ b 0 = aN A ∧ ∀ k, k < aN A → pSm μ b k (aL A k)) ∧
  pMs μ 293 0 (aS A) ∧ (zI μ 292 10 = (aB A).length ∧ ∀ i, i < (aB A).length → zI μ 313 i = (aB A).getD i 0) ∧
  (zI μ 292 11 = (aE A).1 ∧ zI μ 292 12 = (aE A).2) ∧ (∀ i, i < 10 → zI μ 298 i = aC A i) ∧
  (zI μ 292 7 = (aU A).length ∧ ∀ j s, (aU A)[j]? = some s → pMs μ 295 (2256 * ((aU A).length - 1 - j)) s) ∧
  ∀ j, j < 2 → (zI μ 297 j = 0 ∧ aV A j = none) ∨ (zI μ 297 j = 1 ∧ ∃ s, aV A j = some s ∧ pMs μ 296 (2256 * j) s)
/-- what stays beside the reference's scratch -/
def mScr (μ m : zM) : Prop := zSm (fun c => c < 292 ∨ (292 < c ∧ c < 328) ∨ 338 < c) μ m ∧ (∀ i, zR m 292 i = zR μ 292 i) ∧ ∀ i, (i = 0 ∨ i = 7 ∨ i = 10 ∨ i = 11 ∨ i = 12) → zI m 292 i = zI μ 292 i
theorem mScr.rf {μ : zM} : mScr μ μ := ⟨zSm.rf, fun _ => rfl, fun _ _ => rfl⟩
theorem mScr.tr {μ m m' : zM} (h : mScr μ m) (h' : mScr m m') : mScr μ m' := ⟨h.1.tr h'.1, fun i => (h'.2.1 i).trans (h.2.1 i), fun i hi => (h'.2.2 i hi).trans (h.2.2 i hi)⟩
theorem pMs_keep {μ m : zM} {c off : Nat} {s : zSt} (h : ∀ i, zI m c i = zI μ c i) (hs : pMs μ c off s) : pMs m c off s := by
  obtain ⟨a1, a2, a3, a4, a5⟩ := hs
  exact ⟨(h _).trans a1, (h _).trans a2, (h _).trans a3, fun i hi => (h _).trans (a4 i hi), fun l hl => ⟨(h _).trans (a5 l hl).1, (h _).trans (a5 l hl).2.1, (h _).trans (a5 l hl).2.2.1, fun f hf => ⟨(h _).trans ((a5 l hl).2.2.2 f hf).1, fun i hi => (h _).trans (((a5 l hl).2.2.2 f hf).2 i hi)⟩⟩⟩
theorem rM.keep {A : zA} {μ m : zM} (h : zSm (fun c => 292 < c ∧ c < 328) μ m) (hR : ∀ i, zR m 292 i = zR μ 292 i) (hI : ∀ i, (i = 7 ∨ i = 10 ∨ i = 11 ∨ i = 12) → zI m 292 i = zI μ 292 i) (hr : rM A μ) : rM A m := by
  obtain ⟨⟨b, b1, b2, b3, b4, b5⟩, h2, h3, h4, h5, h6, h7⟩ := hr
  have e : ∀ c, 292 < c → c < 328 → ∀ i, zI m c i = zI μ c i := fun c h1 h2 i => (h c ⟨h1, h2⟩ i).1
  refine ⟨⟨b, b1, (hR 8).trans b2, (hR 13).trans b3, (e b (by omega) (by omega) 0).trans b4, fun k hk => pSm_keep (fun c c1 c2 => e c (by omega) (by omega)) (b5 k hk)⟩, pMs_keep (e 293 (by decide) (by decide)) h2, ⟨(hI 10 (by omega)).trans h3.1, fun i hi => (e 313 (by decide) (by decide) i).trans (h3.2 i hi)⟩, ⟨(hI 11 (by omega)).trans h4.1, (hI 12 (by omega)).trans h4.2⟩, fun i hi => (e 298 (by decide) (by decide) i).trans (h5 i hi), ⟨(hI 7 (by omega)).trans h6.1, fun j s hj => pMs_keep (e 295 (by decide) (by decide)) (h6.2 j s hj)⟩, fun j hj => ?_⟩
  rcases h7 j hj with ⟨g1, g2⟩ | ⟨g1, s, g2, g3⟩
  · exact Or.inl ⟨(e 297 (by decide) (by decide) j).trans g1, g2⟩
  · exact Or.inr ⟨(e 297 (by decide) (by decide) j).trans g1, s, g2, pMs_keep (e 296 (by decide) (by decide)) g3⟩
theorem rM.scr {A : zA} {μ m : zM} (h : mScr μ m) (hr : rM A μ) : rM A m := hr.keep (h.1.mono (fun c hc => by omega)) h.2.1 (fun i hi => h.2.2 i (by omega))
/-- a row of 2256 numbers is copied -/
theorem m_copies {μ : zM} {a p d q : Nat} (hp : p + 2256 ≤ zln a) (hq : q + 2256 ≤ zln d) (hz : zln a ≤ 100000 ∧ zln d ≤ 100000) (hne : a ≠ d ∨ q + 2256 ≤ p) : zok (f7_copies a (p : Int) d (q : Int) μ) (fun m => zSm (fun c => c ≠ d) μ m ∧ (∀ i, i < 2256 → zI m d (q + i) = zI μ a (p + i)) ∧ (∀ i, (i < q ∨ q + 2256 ≤ i) → zI m d i = zI μ d i) ∧ ∀ i, zR m d i = zR μ d i) := by
  unfold f7_copies
  refine zok_x2 (fun (x : Int) m => ∃ j : Nat, x = j ∧ j ≤ 2256 ∧ zSm (fun c => c ≠ d) μ m ∧ (∀ i, i < j → zI m d (q + i) = zI μ a (p + i)) ∧ (∀ i, (i < q ∨ q + j ≤ i) → zI m d i = zI μ d i) ∧ ∀ i, zR m d i = zR μ d i) (fun x _ => 2256 - x.toNat) (fun kk x m hx ih => ?_) zFu 0 μ ⟨0, rfl, by omega, zSm.rf, fun i hi => absurd hi (Nat.not_lt_zero i), fun i _ => rfl, fun i => rfl⟩ (by show 2256 - 0 < 100000; omega)
  obtain ⟨j, rfl, h1, h2, h3, h4, h5⟩ := hx
  unfold f7_copies_3
  refine zok_if (fun h9 => zok_some ⟨h2, fun i hi => h3 i (by omega), fun i hi => h4 i (by omega), h5⟩) (fun h9 => ?_)
  refine zok_gl ⟨by omega, by omega⟩ (zok_gl ⟨by omega, by omega⟩ (zok_gd ⟨by omega, by omega⟩ (zok_gd ⟨by omega, by omega⟩ (zok_lt (zok_gl ⟨by omega, by omega⟩ (ih _ _ ⟨j + 1, by omega, by omega, h2.sI (fun q => q rfl), fun i hi => ?_, fun i hi => ?_, h5⟩ (by show 2256 - ((j : Int) + 1).toNat < 2256 - (j : Int).toNat; omega)))))))
  · rw [show zx ((q : Int) + (j : Int)) = q + j from by show ((q : Int) + (j : Int)).toNat = _; omega, show zx ((p : Int) + (j : Int)) = p + j from by show ((p : Int) + (j : Int)).toNat = _; omega]
    by_cases e : i = j
    · rw [zI_eq rfl (by omega), e]
      by_cases ead : a = d
      · subst ead; exact h4 _ (by omega)
      · exact (h2 a ead _).1
    · rw [zI_ni (by omega)]; exact h3 i (by omega)
  · rw [show zx ((q : Int) + (j : Int)) = q + j from by show ((q : Int) + (j : Int)).toNat = _; omega, zI_ni (by omega)]; exact h4 i (by omega)
