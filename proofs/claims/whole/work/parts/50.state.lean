/-! THE SESSIONS' PICTURE: order, depth, of each level its snippet, current field, typed fields (a set), texts; the document -/
abbrev zSt : Type := Int × Nat × (Nat → Int) × (Nat → Int) × (Nat → Int) × (Nat → Nat → List Int) × List Int
def tO (s : zSt) : Int := s.1
def tD (s : zSt) : Nat := s.2.1
def tS (s : zSt) : Nat → Int := s.2.2.1
def tC (s : zSt) : Nat → Int := s.2.2.2.1
def tY (s : zSt) : Nat → Int := s.2.2.2.2.1
def tX (s : zSt) : Nat → Nat → List Int := s.2.2.2.2.2.1
def tDoc (s : zSt) : List Int := s.2.2.2.2.2.2
def wSt (s : zSt) : Prop := (tO s = 0 ∨ tO s = 1) ∧ tD s ≤ 4 ∧ (tDoc s).length ≤ 600 ∧ ∀ l, l < tD s → True ∧ True ∧ zr (tY s l) ∧ (∀ i, 10 ≤ i → i < 32 → mbit (tY s l) i = false) ∧ ∀ f, f < 10 → (tX s l f).length ≤ 40 ∧ (mbit (tY s l) f = false → tX s l f = [])
/-- the class's State at a cell -/
def okC (c : Nat) : Prop := zkd c = 3
theorem okC_0 : ∀ c, c < 341 → zkd c = 3 → (c = 193 ∨ (222 ≤ c ∧ c ≤ 285 ∧ (c - 222) % 7 = 0)) ∧ zln (c + 1) = 4 ∧ zln (c + 2) = 4 := by decide +kernel
theorem okC_1 : ∀ c, c < 341 → zkd c = 3 → zln (c + 3) = 4 ∧ zln (c + 4) = 40 ∧ zln (c + 5) = 1600 ∧ zln (c + 6) = 600 := by decide +kernel
theorem okC.f {c : Nat} (h : okC c) : (c = 193 ∨ (222 ≤ c ∧ c ≤ 285 ∧ (c - 222) % 7 = 0)) ∧ zln (c + 1) = 4 ∧ zln (c + 2) = 4 ∧ zln (c + 3) = 4 ∧ zln (c + 4) = 40 ∧ zln (c + 5) = 1600 ∧ zln (c + 6) = 600 :=
  let hc := Nat.lt_succ_of_le (zkd_pos h (by decide)).2
  ⟨(okC_0 c hc h).1, (okC_0 c hc h).2.1, (okC_0 c hc h).2.2, okC_1 c hc h⟩
def pSt (μ : zM) (c : Nat) (s : zSt) : Prop :=
  zI μ c 0 = tO s ∧ zI μ c 1 = tD s ∧ zI μ c 8 = (tDoc s).length ∧
  (∀ l, l < tD s → zI μ (c + 1) l = tS s l ∧ zI μ (c + 2) l = tC s l ∧ zI μ (c + 3) l = tY s l) ∧
  (∀ l, l < tD s → ∀ f, f < 10 → zI μ (c + 4) (10 * l + f) = (tX s l f).length ∧ ∀ i, i < (tX s l f).length → zI μ (c + 5) (40 * (10 * l + f) + i) = (tX s l f).getD i 0) ∧
  ∀ i, i < (tDoc s).length → zI μ (c + 6) i = (tDoc s).getD i 0
theorem pSt_keep {μ μ' : zM} {c : Nat} {s : zSt} (h : ∀ k, c ≤ k → k ≤ c + 6 → ∀ i, zI μ' k i = zI μ k i) (hS : pSt μ c s) : pSt μ' c s := by
  obtain ⟨a1, a2, a3, a4, a5, a6⟩ := hS
  refine ⟨by rw [h c (by omega) (by omega)]; exact a1, by rw [h c (by omega) (by omega)]; exact a2, by rw [h c (by omega) (by omega)]; exact a3, fun l hl => ?_, fun l hl f hf => ⟨?_, fun i hi => ?_⟩, fun i hi => ?_⟩
  · rw [h (c + 1) (by omega) (by omega), h (c + 2) (by omega) (by omega), h (c + 3) (by omega) (by omega)]; exact a4 l hl
  · rw [h (c + 4) (by omega) (by omega)]; exact (a5 l hl f hf).1
  · rw [h (c + 5) (by omega) (by omega)]; exact (a5 l hl f hf).2 i hi
  · rw [h (c + 6) (by omega) (by omega)]; exact a6 i hi
/-! what acts do to it -/
def updX (x : Nat → Nat → List Int) (l f : Nat) (v : List Int) : Nat → Nat → List Int := fun a b => if a = l ∧ b = f then v else x a b
def stClear (o : Int) : zSt := (o, 0, fun _ => 0, fun _ => 0, fun _ => 0, fun _ _ => [], [])
def stPush (s : zSt) (sn cur : Int) : zSt := (tO s, tD s + 1, updI (tS s) (tD s) sn, updI (tC s) (tD s) cur, updI (tY s) (tD s) 0, fun l f => if l = tD s then [] else tX s l f, tDoc s)
def stUntype (s : zSt) (l f : Nat) : zSt := (tO s, tD s, tS s, tC s, updI (tY s) l (zand (tY s l) (zxor (zshl 1 (f : Nat)) (-1))), updX (tX s) l f [], tDoc s)
def stType (s : zSt) (l f : Nat) (x : List Int) : zSt := (tO s, tD s, tS s, tC s, updI (tY s) l (zor (tY s l) (zshl 1 (f : Nat))), updX (tX s) l f x, tDoc s)
def stDoc (s : zSt) (x : List Int) : zSt := (tO s, tD s, tS s, tC s, tY s, tX s, tDoc s ++ x)
def stDep (s : zSt) (d : Nat) : zSt := (tO s, d, tS s, tC s, tY s, tX s, tDoc s)
def stCur (s : zSt) (l : Nat) (f : Int) : zSt := (tO s, tD s, tS s, updI (tC s) l f, tY s, tX s, tDoc s)
def stOrd (s : zSt) (o : Int) : zSt := (o, tD s, tS s, tC s, tY s, tX s, tDoc s)
/-- the cells of a State alone have changed -/
def onlySt (c : Nat) (μ μ' : zM) : Prop := zSm (fun k => k < c ∨ c + 6 < k) μ μ'
section vState
variable {μ : zM} {c d : Nat} {s : zSt}
theorem s_clear {o : Int} (ho : o = 0 ∨ o = 1) : zok (f3_clear c o μ) (fun m => pSt m c (stClear o) ∧ onlySt c μ m) := by
  unfold f3_clear
  refine zok_gd ho (zok_lt (zok_lt (zok_lt (zok_some ⟨⟨?_, ?_, ?_, fun l hl => absurd hl (Nat.not_lt_zero l), fun l hl => absurd hl (Nat.not_lt_zero l), fun i hi => absurd hi (Nat.not_lt_zero i)⟩, ?_⟩))))
  · rw [zI_ni (by decide), zI_ni (by decide), zI_eq rfl rfl]; rfl
  · rw [zI_ni (by decide), zI_eq rfl rfl]; rfl
  · rw [zI_eq rfl rfl]; rfl
  · exact ((zSm.rf.sI (by omega)).sI (by omega)).sI (by omega)
theorem s_copy (hc : okC c) (hd : okC d) (hne : c ≠ d) (hS : pSt μ d s) (hW : wSt s) : zok (f3_copyFrom c d μ) (fun m => pSt m c s ∧ onlySt c μ m) := by
  obtain ⟨c0, c1, c2, c3, c4, c5, c6⟩ := hc.f
  obtain ⟨d0, d1, d2, d3, d4, d5, d6⟩ := hd.f
  obtain ⟨a1, a2, a3, a4, a5, a6⟩ := hS
  obtain ⟨w1, w2, w3, w4⟩ := hW
  have z0 : zx 0 = 0 := rfl
  unfold f3_copyFrom
  rw [a1]
  refine zok_gd w1 (zok_lt (zok_lt (zok_lt ?_)))
  have e1 : zI (zsI μ c 0 (tO s)) d 1 = (tD s : Int) := by rw [zI_nk (by omega)]; exact a2
  rw [e1]
  have e2 : zI (zsI (zsI μ c 0 (tO s)) c 1 (tD s : Int)) d 8 = ((tDoc s).length : Int) := by rw [zI_nk (by omega), zI_nk (by omega)]; exact a3
  rw [e2]
  generalize hm3 : zsI (zsI (zsI μ c 0 (tO s)) c 1 (tD s : Int)) c 8 ((tDoc s).length : Int) = m3
  have f1 : zI m3 c 0 = tO s := by rw [← hm3, zI_ni (by decide), zI_ni (by decide), zI_eq rfl rfl]
  have f2 : zI m3 c 1 = tD s := by rw [← hm3, zI_ni (by decide), zI_eq rfl rfl]
  have f3 : zI m3 c 8 = (tDoc s).length := by rw [← hm3, zI_eq rfl rfl]
  have f4 : ∀ k, k ≠ c → ∀ i, zI m3 k i = zI μ k i := fun k hk i => by rw [← hm3, zI_nk hk, zI_nk hk, zI_nk hk]
  have f5 : onlySt c μ m3 := by rw [← hm3]; exact ((zSm.rf.sI (by omega)).sI (by omega)).sI (by omega)
  rw [f2, z0, zx_nat]
  refine zok_gd ⟨by omega, by omega, by omega, by omega, by omega⟩ (zok_lt ?_)
  simp (disch := omega) only [zcI_nk, f2, z0, zx_nat]
  refine zok_gd ⟨by omega, by omega, by omega, by omega, by omega⟩ (zok_lt ?_)
  simp (disch := omega) only [zcI_nk, f2, z0, zx_nat]
  refine zok_gd ⟨by omega, by omega, by omega, by omega, by omega⟩ (zok_lt ?_)
  simp (disch := omega) only [zcI_nk, f2, z0, zx_nat]
  refine zok_gl ⟨by omega, by omega⟩ (zok_gd ⟨by omega, by omega, by omega, by omega, by omega⟩ (zok_lt ?_))
  simp (disch := omega) only [zcI_nk, f2, z0, zx_nat]
  refine zok_gl ⟨by omega, by omega⟩ (zok_gl ⟨by omega, by omega⟩ (zok_gd ⟨by omega, by omega, by omega, by omega, by omega⟩ (zok_lt ?_)))
  simp (disch := omega) only [zcI_nk, f3, z0, zx_nat]
  refine zok_gd ⟨by omega, by omega, by omega, by omega, by omega⟩ (zok_lt (zok_some ?_))
  have x1 : zx ((tD s : Int) * 10) = tD s * 10 := by show (_ : Int).toNat = _; omega
  have x2 : zx ((tD s : Int) * 10 * 40) = tD s * 400 := by show (_ : Int).toNat = _; omega
  rw [x1, x2]
  refine ⟨⟨?_, ?_, ?_, fun l hl => ⟨?_, ?_, ?_⟩, fun l hl f hf => ⟨?_, fun i hi => ?_⟩, fun i hi => ?_⟩, ?_⟩
  · simp (disch := omega) only [zcI_nk, f1]
  · simp (disch := omega) only [zcI_nk, f2]
  · simp (disch := omega) only [zcI_nk, f3]
  · rw [zcI_nk (by omega), zcI_nk (by omega), zcI_nk (by omega), zcI_nk (by omega), zcI_nk (by omega), zcI_in rfl (by omega) (by omega), f4 _ (by omega), Nat.zero_add, Nat.sub_zero]; exact (a4 l hl).1
  · rw [zcI_nk (by omega), zcI_nk (by omega), zcI_nk (by omega), zcI_nk (by omega), zcI_in rfl (by omega) (by omega), Nat.zero_add, Nat.sub_zero, zcI_nk (by omega), f4 _ (by omega)]; exact (a4 l hl).2.1
  · rw [zcI_nk (by omega), zcI_nk (by omega), zcI_nk (by omega), zcI_in rfl (by omega) (by omega), Nat.zero_add, Nat.sub_zero, zcI_nk (by omega), zcI_nk (by omega), f4 _ (by omega)]; exact (a4 l hl).2.2
  · rw [zcI_nk (by omega), zcI_nk (by omega), zcI_in rfl (by omega) (by omega), Nat.zero_add, Nat.sub_zero, zcI_nk (by omega), zcI_nk (by omega), zcI_nk (by omega), f4 _ (by omega)]; exact (a5 l hl f hf).1
  · have := ((w4 l hl).2.2.2.2 f hf).1
    rw [zcI_nk (by omega), zcI_in rfl (by omega) (by omega), Nat.zero_add, Nat.sub_zero, zcI_nk (by omega), zcI_nk (by omega), zcI_nk (by omega), zcI_nk (by omega), f4 _ (by omega)]; exact (a5 l hl f hf).2 i hi
  · rw [zcI_in rfl (by omega) (by omega), Nat.zero_add, Nat.sub_zero, zcI_nk (by omega), zcI_nk (by omega), zcI_nk (by omega), zcI_nk (by omega), zcI_nk (by omega), f4 _ (by omega)]; exact a6 i hi
  · exact ((((((f5.cI (by omega)).cI (by omega)).cI (by omega)).cI (by omega)).cI (by omega)).cI (by omega))
end vState
