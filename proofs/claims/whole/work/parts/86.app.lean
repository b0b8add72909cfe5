/-! THE BUFFER: the bytes of a word, and append -/
theorem zushr_c : ∀ n, n < 32 → (((zi (n : Nat)).toUInt32 &&& Int32.toUInt32 31).toBitVec % 32).toNat = n := by decide +kernel
theorem mbit_ushr {x f : Int} (h0 : 0 ≤ f) (h1 : f < 32) (i : Nat) : mbit (zushr x f) i = mbit x (f.toNat + i) := by
  unfold mbit zushr
  rw [zi_of]
  have e := zushr_c f.toNat (by omega)
  rw [show ((f.toNat : Nat) : Int) = f from by omega] at e
  show ((zi x).toUInt32 >>> ((zi f).toUInt32 &&& Int32.toUInt32 31)).toBitVec.getLsbD i = _
  rw [UInt32.toBitVec_shiftRight]
  show ((zi x).toBitVec >>> (((zi f).toUInt32 &&& Int32.toUInt32 31).toBitVec % 32).toNat).getLsbD i = _
  rw [e, BitVec.getLsbD_ushiftRight]
theorem mbit_255 : ∀ i, i < 32 → mbit 255 i = decide (i < 8) := by decide +kernel
theorem byt_all : ∀ n, n < 1024 → n.testBit 8 = false → n.testBit 9 = false → n < 256 := by decide +kernel
theorem zand_255 (x : Int) : 0 ≤ zand x 255 ∧ zand x 255 ≤ 255 := by
  have hb : ∀ i, 8 ≤ i → i < 32 → mbit (zand x 255) i = false := fun i h1 h2 => by rw [mbit_and, mbit_255 i h2, decide_eq_false (by omega), Bool.and_false]
  have h := mset_lt (zr_of _) (x := zand x 255) (fun i h1 h2 => hb i (by omega) h2)
  obtain ⟨n, hn⟩ : ∃ n : Nat, zand x 255 = n := ⟨(zand x 255).toNat, by omega⟩
  rw [hn] at hb h ⊢
  have h8 := hb 8 (by decide) (by decide)
  have h9 := hb 9 (by decide) (by decide)
  rw [mset_all n (by omega) _ (by decide)] at h8 h9
  have := byt_all n (by omega) h8 h9
  omega
theorem bwk_u (w : Int) {x : Int} (h0 : 0 ≤ x) (h1 : x ≤ 24) : zand (zushr w x) 255 = zand (zshr w x) 255 := by
  refine mext (zr_of _) (zr_of _) (fun i hi => ?_)
  rw [mbit_and, mbit_and, mbit_255 i hi, mbit_ushr h0 (by omega), mbit_shr h0 (by omega)]
  by_cases q : i < 8
  · rw [if_pos (by omega)]
  · rw [decide_eq_false q, Bool.and_false, Bool.and_false]
def bwk (w : Int) (j : Nat) : Int := zand (zshr w (24 - 8 * j)) 255
def bWd (w : Int) : Nat → List Int
  | 0 => []
  | j + 1 => bWd w j ++ (if bwk w j = 0 then [] else [bwk w j])
theorem bWd_s0 {w : Int} {j : Nat} (h : bwk w j = 0) : bWd w (j + 1) = bWd w j := by show _ ++ (if _ then _ else _) = _; rw [if_pos h, List.append_nil]
theorem bWd_s1 {w : Int} {j : Nat} (h : bwk w j ≠ 0) : bWd w (j + 1) = bWd w j ++ [bwk w j] := by show _ ++ (if _ then _ else _) = _; rw [if_neg h]
theorem bWd_len (w : Int) (j : Nat) : (bWd w j).length ≤ j := by
  induction j with
  | zero => exact Nat.le_refl _
  | succ j ih =>
    by_cases h : bwk w j = 0
    · rw [bWd_s0 h]; omega
    · rw [bWd_s1 h, List.length_append]; show _ + 1 ≤ _; omega
theorem bWd_r (w : Int) (j : Nat) : ∀ x ∈ bWd w j, 1 ≤ x ∧ x ≤ 255 := by
  induction j with
  | zero => intro x hx; cases hx
  | succ j ih =>
    by_cases h : bwk w j = 0
    · rw [bWd_s0 h]; exact ih
    · rw [bWd_s1 h]
      intro x hx
      rcases List.mem_append.mp hx with q | q
      · exact ih x q
      · rw [List.mem_singleton.mp q]
        have : 0 ≤ bwk w j ∧ bwk w j ≤ 255 := zand_255 _
        omega
theorem bWd_mono (w : Int) {i j : Nat} (h : i ≤ j) : (bWd w i).length ≤ (bWd w j).length := by
  induction j with
  | zero => rw [show i = 0 by omega]; exact Nat.le_refl _
  | succ j ih =>
    by_cases q : i = j + 1
    · rw [q]; exact Nat.le_refl _
    · refine Nat.le_trans (ih (by omega)) ?_
      by_cases h : bwk w j = 0
      · rw [bWd_s0 h]; exact Nat.le_refl _
      · rw [bWd_s1 h, List.length_append]; omega
theorem c_countBytes (w : Int) : zok (f5_countBytes w) (fun r => r = ((bWd w 4).length : Nat)) := by
  unfold f5_countBytes
  refine zok_x2 (fun (x1 x2 : Int) => ∃ j : Nat, x2 = 24 - 8 * (j : Int) ∧ j ≤ 4 ∧ x1 = ((bWd w j).length : Nat)) (fun _ x2 => (x2 + 8).toNat) (fun kk x1 x2 hx ih => ?_) zFu 0 24 ⟨0, rfl, by omega, rfl⟩ (by show 32 < 100000; decide)
  obtain ⟨j, rfl, j1, rfl⟩ := hx
  have hl := bWd_len w j
  unfold f5_countBytes_5
  refine zok_if (fun h => zok_some (by rw [show j = 4 by omega])) (fun h => zok_lt (zok_lt ?_))
  rw [bwk_u w (by omega) (by omega)]
  refine zok_if (fun h2 => ?_) (fun h2 => ?_)
  · have h2' : bwk w j = 0 := h2
    exact zok_gl ⟨by omega, by omega⟩ (ih _ _ ⟨j + 1, by omega, by omega, by rw [bWd_s0 h2']⟩ (by show (24 - 8 * (j : Int) + (-8) + 8).toNat < (24 - 8 * (j : Int) + 8).toNat; omega))
  · have h2' : bwk w j ≠ 0 := h2
    exact zok_gl ⟨by omega, by omega⟩ (zok_gl ⟨by omega, by omega⟩ (ih _ _ ⟨j + 1, by omega, by omega, by rw [bWd_s1 h2', List.length_append]; rfl⟩ (by show (24 - 8 * (j : Int) + (-8) + 8).toNat < (24 - 8 * (j : Int) + 8).toNat; omega)))
theorem n_bytesIn (w : Int) : zok (f7_bytesIn w) (fun r => r = ((bWd w 4).length : Nat)) := by
  unfold f7_bytesIn
  refine zok_x2 (fun (x1 x2 : Int) => ∃ j : Nat, x2 = 24 - 8 * (j : Int) ∧ j ≤ 4 ∧ x1 = ((bWd w j).length : Nat)) (fun _ x2 => (x2 + 8).toNat) (fun kk x1 x2 hx ih => ?_) zFu 0 24 ⟨0, rfl, by omega, rfl⟩ (by show 32 < 100000; decide)
  obtain ⟨j, rfl, j1, rfl⟩ := hx
  have hl := bWd_len w j
  unfold f7_bytesIn_5
  refine zok_if (fun h => zok_some (by rw [show j = 4 by omega])) (fun h => zok_lt (zok_lt ?_))
  refine zok_if (fun h2 => ?_) (fun h2 => ?_)
  · have h2' : bwk w j = 0 := h2
    exact zok_gl ⟨by omega, by omega⟩ (zok_gl ⟨by omega, by omega⟩ (ih _ _ ⟨j + 1, by omega, by omega, by rw [bWd_s0 h2']; omega⟩ (by show (24 - 8 * (j : Int) + (-8) + 8).toNat < (24 - 8 * (j : Int) + 8).toNat; omega)))
  · have h2' : bwk w j ≠ 0 := h2
    exact zok_gl ⟨by omega, by omega⟩ (zok_gl ⟨by omega, by omega⟩ (ih _ _ ⟨j + 1, by omega, by omega, by rw [bWd_s1 h2', List.length_append]; rfl⟩ (by show (24 - 8 * (j : Int) + (-8) + 8).toNat < (24 - 8 * (j : Int) + 8).toNat; omega)))
/-- a buffer: its length in slot j of cell q, its bytes in row r -/
def bfr (q j r : Nat) (m : zM) (b : List Int) : Prop := zI m q j = b.length ∧ ∀ i, i < b.length → zI m r i = b.getD i 0
def bfF (q j r : Nat) (m m' : zM) : Prop := zSm (fun c => c ≠ q ∧ c ≠ r) m m' ∧ (∀ i, zR m' q i = zR m q i) ∧ ∀ i, i ≠ j → zI m' q i = zI m q i
theorem bfF.rf {q j r : Nat} {m : zM} : bfF q j r m m := ⟨zSm.rf, fun _ => rfl, fun _ _ => rfl⟩
theorem bfF.tr {q j r : Nat} {m m' m2 : zM} (h : bfF q j r m m') (h' : bfF q j r m' m2) : bfF q j r m m2 := ⟨h.1.tr h'.1, fun i => (h'.2.1 i).trans (h.2.1 i), fun i hi => (h'.2.2 i hi).trans (h.2.2 i hi)⟩
theorem getD_app (b : List Int) (v : Int) {i : Nat} (hi : i < b.length + 1) : (b ++ [v]).getD i 0 = if i = b.length then v else b.getD i 0 := by
  rw [List.getD_eq_getElem?_getD, List.getD_eq_getElem?_getD]
  by_cases q : i = b.length
  · rw [if_pos q, q, List.getElem?_append_right (Nat.le_refl _), Nat.sub_self]; rfl
  · rw [if_neg q, List.getElem?_append_left (by omega)]
theorem bfr.push {q j r : Nat} {m : zM} {b : List Int} (h : bfr q j r m b) (hq : q ≠ r) (v : Int) {x : Nat} (hx : x = b.length) {y : Int} (hy : y = ((b.length + 1 : Nat) : Int)) : bfr q j r (zsI (zsI m r x v) q j y) (b ++ [v]) ∧ bfF q j r m (zsI (zsI m r x v) q j y) := by
  refine ⟨⟨?_, fun i hi => ?_⟩, (zSm.rf.sI (fun h => h.2 rfl)).sI (fun h => h.1 rfl), fun _ => rfl, fun i hi => by rw [zI_ni hi, zI_nk hq]⟩
  · rw [zI_eq rfl rfl, List.length_append, hy]; rfl
  · have hi' : i < b.length + 1 := by rw [List.length_append] at hi; exact hi
    rw [zI_nk hq.symm, getD_app b v hi']
    by_cases e : i = b.length
    · rw [if_pos e, zI_eq rfl (by omega)]
    · rw [if_neg e, zI_ni (by omega)]; exact h.2 i (by omega)
theorem c_buf {m : zM} {b : List Int} (w : Int) (h : bfr 1 1 2 m b) (h7 : b.length + (bWd w 4).length ≤ 700) : zok (f5_bufferBytes w m) (fun m' => bfr 1 1 2 m' (b ++ bWd w 4) ∧ bfF 1 1 2 m m') := by
  unfold f5_bufferBytes
  refine zok_x2 (fun (x2 : Int) m' => ∃ j : Nat, x2 = 24 - 8 * (j : Int) ∧ j ≤ 4 ∧ bfr 1 1 2 m' (b ++ bWd w j) ∧ bfF 1 1 2 m m') (fun x2 _ => (x2 + 8).toNat) (fun kk x2 m' hx ih => ?_) zFu 24 m ⟨0, rfl, by omega, by show bfr 1 1 2 m (b ++ []); rw [List.append_nil]; exact h, bfF.rf⟩ (by show 32 < 100000; decide)
  obtain ⟨j, rfl, j1, hb, hf⟩ := hx
  unfold f5_bufferBytes_3
  refine zok_if (fun h => zok_some (by rw [show j = 4 by omega] at hb; exact ⟨hb, hf⟩)) (fun h => zok_lt (zok_lt ?_))
  rw [bwk_u w (by omega) (by omega)]
  refine zok_if (fun h2 => ?_) (fun h2 => ?_)
  · have h2' : bwk w j = 0 := h2
    exact zok_gl ⟨by omega, by omega⟩ (ih _ _ ⟨j + 1, by omega, by omega, by rw [bWd_s0 h2']; exact hb, hf⟩ (by show (24 - 8 * (j : Int) + (-8) + 8).toNat < (24 - 8 * (j : Int) + 8).toNat; omega))
  · have h2' : bwk w j ≠ 0 := h2
    have hlt : (b ++ bWd w j).length + 1 ≤ 700 := by
      have := bWd_mono w (show j + 1 ≤ 4 by omega)
      rw [bWd_s1 h2', List.length_append] at this
      rw [List.length_append]
      have e : [bwk w j].length = 1 := rfl
      omega
    have e := hb.1
    rw [e]
    refine zok_f (by omega) (zok_gd ⟨by omega, by rw [zln_c.1]; omega⟩ (zok_lt ?_))
    rw [zI_nk (show (1 : Nat) ≠ 2 by decide), e]
    obtain ⟨p1, p2⟩ := hb.push (by decide) (bwk w j) (x := zx ((b ++ bWd w j).length : Nat)) rfl (y := ((b ++ bWd w j).length : Nat) + 1) (by omega)
    refine zok_gl ⟨by omega, by omega⟩ (zok_lt (zok_gl ⟨by omega, by omega⟩ (ih _ _ ⟨j + 1, by omega, by omega, ?_, hf.tr p2⟩ (by show (24 - 8 * (j : Int) + (-8) + 8).toNat < (24 - 8 * (j : Int) + 8).toNat; omega))))
    rw [bWd_s1 h2', ← List.append_assoc]; exact p1
theorem n_puts {m : zM} {b : List Int} (w : Int) (h : bfr 292 10 313 m b) (h7 : b.length + (bWd w 4).length ≤ 700) : zok (f7_puts w m) (fun m' => bfr 292 10 313 m' (b ++ bWd w 4) ∧ bfF 292 10 313 m m') := by
  unfold f7_puts
  refine zok_x2 (fun (x2 : Int) m' => ∃ j : Nat, x2 = 24 - 8 * (j : Int) ∧ j ≤ 4 ∧ bfr 292 10 313 m' (b ++ bWd w j) ∧ bfF 292 10 313 m m') (fun x2 _ => (x2 + 8).toNat) (fun kk x2 m' hx ih => ?_) zFu 24 m ⟨0, rfl, by omega, by show bfr 292 10 313 m (b ++ []); rw [List.append_nil]; exact h, bfF.rf⟩ (by show 32 < 100000; decide)
  obtain ⟨j, rfl, j1, hb, hf⟩ := hx
  unfold f7_puts_3
  refine zok_if (fun h => zok_some (by rw [show j = 4 by omega] at hb; exact ⟨hb, hf⟩)) (fun h => zok_lt (zok_lt ?_))
  refine zok_if (fun h2 => ?_) (fun h2 => ?_)
  · have h2' : bwk w j = 0 := h2
    exact zok_gl ⟨by omega, by omega⟩ (ih _ _ ⟨j + 1, by omega, by omega, by rw [bWd_s0 h2']; exact hb, hf⟩ (by show (24 - 8 * (j : Int) + (-8) + 8).toNat < (24 - 8 * (j : Int) + 8).toNat; omega))
  · have h2' : bwk w j ≠ 0 := h2
    have hlt : (b ++ bWd w j).length + 1 ≤ 700 := by
      have := bWd_mono w (show j + 1 ≤ 4 by omega)
      rw [bWd_s1 h2', List.length_append] at this
      rw [List.length_append]
      have e : [bwk w j].length = 1 := rfl
      omega
    have e := hb.1
    rw [e]
    refine zok_lt (zok_lt (zok_gd ⟨by omega, by rw [zl_m.2.2.2.2.2.2.1]; omega⟩ (zok_lt ?_)))
    rw [zI_nk (show (292 : Nat) ≠ 313 by decide), e]
    obtain ⟨p1, p2⟩ := hb.push (by decide) (bwk w j) (x := zx ((b ++ bWd w j).length : Nat)) rfl (y := ((b ++ bWd w j).length : Nat) + 1) (by omega)
    refine zok_gl ⟨by omega, by omega⟩ (zok_lt (zok_gl ⟨by omega, by omega⟩ (ih _ _ ⟨j + 1, by omega, by omega, ?_, hf.tr p2⟩ (by show (24 - 8 * (j : Int) + (-8) + 8).toNat < (24 - 8 * (j : Int) + 8).toNat; omega))))
    rw [bWd_s1 h2', ← List.append_assoc]; exact p1
section bApp
variable {A : zA} {c : Int} {μ m : zM} {b : List Int}
theorem rC.bb (hn : aN A ≤ 8) (hr : rC A μ) (hf : bfF 1 1 2 μ m) (hb : bfr 1 1 2 m b) : rC (setB A b) m := by
  obtain ⟨⟨t, t1, t2, t3, t4, t5⟩, h2, h3, h4, h5, ⟨n, n1, n2, n3, n4⟩, h7⟩ := hr
  have e : ∀ c, c ≠ 1 → c ≠ 2 → ∀ i, zI m c i = zI μ c i := fun c hc h2 i => (hf.1 c ⟨hc, h2⟩ i).1
  have e1 : ∀ i, i ≠ 1 → zI m 1 i = zI μ 1 i := hf.2.2
  refine ⟨⟨t, t1, (hf.2.1 2).trans t2, ((hf.1 99 (by decide) 3).2.2).trans t3, (e t (by omega) (by omega) 1).trans t4, fun k hk => ?_⟩, pSt_keep (fun k k1 k2 => e k (by omega) (by omega)) h2, hb, ⟨(e1 4 (by decide)).trans h4.1, (e1 5 (by decide)).trans h4.2⟩, fun i hi => (e 3 (by decide) (by decide) i).trans (h5 i hi), ⟨n, n1, (e1 9 (by decide)).trans n2, (e1 10 (by decide)).trans n3, fun j s hj => pSt_keep (fun k k1 k2 => e k (by omega) (by omega)) (n4 j s hj)⟩, fun j hj => ?_⟩
  · have hk' : k < aN A := hk
    have hz := (okT_k t1 (show k < 8 by omega)).f
    exact pSc_keep (fun c c1 c2 i => e c (by omega) (by omega) i) (fun i => ⟨e _ (by omega) (by omega) i, e _ (by omega) (by omega) i⟩) (t5 k hk)
  · rcases h7 j hj with ⟨g1, g2⟩ | ⟨g1, s, g2, g3⟩
    · exact Or.inl ⟨(e 6 (by decide) (by decide) j).trans g1, g2⟩
    · exact Or.inr ⟨(e 6 (by decide) (by decide) j).trans g1, s, g2, pSt_keep (fun k k1 k2 => e k (by omega) (by omega)) g3⟩
theorem rM.bb (hR : rM A μ) (hf : bfF 292 10 313 μ m) (hb : bfr 292 10 313 m b) : rM (setB A b) m := by
  obtain ⟨h1, h2, h3, h4, h5, h6, h7⟩ := hR
  have e : ∀ c, c ≠ 292 → c ≠ 313 → ∀ i, zI m c i = zI μ c i := fun c hc h2 i => (hf.1 c ⟨hc, h2⟩ i).1
  have e1 : ∀ i, i ≠ 10 → zI m 292 i = zI μ 292 i := hf.2.2
  obtain ⟨b0, b1, b2, b3, b4, b5⟩ := h1
  refine ⟨⟨b0, b1, (hf.2.1 8).trans b2, (hf.2.1 13).trans b3, (e b0 (by omega) (by omega) 0).trans b4, fun k hk => pSm_keep (fun c c1 c2 i => e c (by omega) (by omega) i) (b5 k hk)⟩, pMs_keep (e 293 (by decide) (by decide)) h2, hb, ⟨(e1 11 (by decide)).trans h4.1, (e1 12 (by decide)).trans h4.2⟩, fun i hi => (e 298 (by decide) (by decide) i).trans (h5 i hi), ⟨(e1 7 (by decide)).trans h6.1, fun j s hj => pMs_keep (e 295 (by decide) (by decide)) (h6.2 j s hj)⟩, fun j hj => ?_⟩
  rcases h7 j hj with ⟨g1, g2⟩ | ⟨g1, s, g2, g3⟩
  · exact Or.inl ⟨(e 297 (by decide) (by decide) j).trans g1, g2⟩
  · exact Or.inr ⟨(e 297 (by decide) (by decide) j).trans g1, s, g2, pMs_keep (e 296 (by decide) (by decide)) g3⟩
/-- five words behind the buffer -/
def bAll (A : zA) (a1 a2 a3 a4 a5 : Int) : List Int := ((((aB A ++ bWd a1 4) ++ bWd a2 4) ++ bWd a3 4) ++ bWd a4 4) ++ bWd a5 4
theorem bAll_len (a1 a2 a3 a4 a5 : Int) : (bAll A a1 a2 a3 a4 a5).length = (aB A).length + (bWd a1 4).length + (bWd a2 4).length + (bWd a3 4).length + (bWd a4 4).length + (bWd a5 4).length := by
  unfold bAll; simp only [List.length_append]
theorem wA.app (hA : wA c A) {a1 a2 a3 a4 a5 : Int} (h : (bAll A a1 a2 a3 a4 a5).length ≤ 700) : wA c (setB A (bAll A a1 a2 a3 a4 a5)) := by
  refine hA.b h (fun x hx => ?_)
  unfold bAll at hx
  simp only [List.mem_append] at hx
  rcases hx with ((((q | q) | q) | q) | q) | q
  · exact hA.2.2.2.2.1.2 x q
  all_goals exact bWd_r _ 4 x q
theorem c_append (hA : wA c A) (hR : rC A μ) (a1 a2 a3 a4 a5 : Int) : zok (f5_append a1 a2 a3 a4 a5 μ) (fun r => (¬ (bAll A a1 a2 a3 a4 a5).length ≤ 700 ∧ r = (.inl xIS, μ)) ∨ ((bAll A a1 a2 a3 a4 a5).length ≤ 700 ∧ r.1 = .inr (((bAll A a1 a2 a3 a4 a5).length : Nat) : Int) ∧ rC (setB A (bAll A a1 a2 a3 a4 a5)) r.2 ∧ zSm (fun c => 292 ≤ c) μ r.2)) := by
  have hl := bAll_len (A := A) a1 a2 a3 a4 a5
  have l1 := bWd_len a1 4
  have l2 := bWd_len a2 4
  have l3 := bWd_len a3 4
  have l4 := bWd_len a4 4
  have l5 := bWd_len a5 4
  have lb := hA.2.2.2.2.1.1
  have hb : bfr 1 1 2 μ (aB A) := hR.2.2.1
  unfold f5_append
  refine zok_co (c_countBytes a1) (fun r1 e1 => zok_co (c_countBytes a2) (fun r2 e2 => ?_))
  subst e1; subst e2
  refine zok_gl ⟨by omega, by omega⟩ (zok_co (c_countBytes a3) (fun r3 e3 => ?_))
  subst e3
  refine zok_gl ⟨by omega, by omega⟩ (zok_co (c_countBytes a4) (fun r4 e4 => ?_))
  subst e4
  refine zok_gl ⟨by omega, by omega⟩ (zok_co (c_countBytes a5) (fun r5 e5 => ?_))
  subst e5
  rw [hb.1]
  refine zok_gl ⟨by omega, by omega⟩ (zok_gl ⟨by omega, by omega⟩ (zok_if (fun h => ?_) (fun h => ?_)))
  · refine zok_cm (c_buf a1 hb (by omega)) (fun m1 h1 => zok_cm (c_buf a2 h1.1 (by rw [List.length_append]; omega)) (fun m2 h2 => zok_cm (c_buf a3 h2.1 (by simp only [List.length_append]; omega)) (fun m3 h3 => zok_cm (c_buf a4 h3.1 (by simp only [List.length_append]; omega)) (fun m4 h4 => zok_cm (c_buf a5 h4.1 (by simp only [List.length_append]; omega)) (fun m5 h5 => zok_some (Or.inr ⟨by omega, ?_, ?_, ?_⟩))))))
    · rw [h5.1.1]; rfl
    · exact hR.bb hA.1.1 ((((h1.2.tr h2.2).tr h3.2).tr h4.2).tr h5.2) h5.1
    · exact ((((h1.2.tr h2.2).tr h3.2).tr h4.2).tr h5.2).1.mono (fun c hc => by omega)
  · exact zok_some (Or.inl ⟨by omega, rfl⟩)
theorem n_append (hA : wA c A) (hR : rM A μ) (a1 a2 a3 a4 a5 : Int) : zok (f7_append a1 a2 a3 a4 a5 μ) (fun r => (¬ (bAll A a1 a2 a3 a4 a5).length ≤ 700 ∧ rM A r.2 ∧ zI r.2 292 0 = 1 ∧ zSm (fun c => c < 292 ∨ 338 < c) μ r.2) ∨ ((bAll A a1 a2 a3 a4 a5).length ≤ 700 ∧ r.1 = (((bAll A a1 a2 a3 a4 a5).length : Nat) : Int) ∧ rM (setB A (bAll A a1 a2 a3 a4 a5)) r.2 ∧ zI r.2 292 0 = 0 ∧ zSm (fun c => c < 292 ∨ 338 < c) μ r.2)) := by
  obtain ⟨hR1, h0⟩ := z0 hR
  have fr : zSm (fun c => c < 292 ∨ 338 < c) μ (zsI μ 292 0 0) := zSm.rf.sI (by omega)
  have hl := bAll_len (A := A) a1 a2 a3 a4 a5
  have l1 := bWd_len a1 4
  have l2 := bWd_len a2 4
  have l3 := bWd_len a3 4
  have l4 := bWd_len a4 4
  have l5 := bWd_len a5 4
  have lb := hA.2.2.2.2.1.1
  have hb : bfr 292 10 313 (zsI μ 292 0 0) (aB A) := hR1.2.2.1
  unfold f7_append
  refine zok_lt ?_
  generalize zsI μ 292 0 0 = μ1 at *
  refine zok_co (n_bytesIn a1) (fun r1 e1 => ?_)
  subst e1
  rw [hb.1]
  refine zok_gl ⟨by omega, by omega⟩ (zok_co (n_bytesIn a2) (fun r2 e2 => ?_))
  subst e2
  refine zok_gl ⟨by omega, by omega⟩ (zok_co (n_bytesIn a3) (fun r3 e3 => ?_))
  subst e3
  refine zok_gl ⟨by omega, by omega⟩ (zok_co (n_bytesIn a4) (fun r4 e4 => ?_))
  subst e4
  refine zok_gl ⟨by omega, by omega⟩ (zok_co (n_bytesIn a5) (fun r5 e5 => ?_))
  subst e5
  refine zok_gl ⟨by omega, by omega⟩ (zok_if (fun h => ?_) (fun h => ?_))
  · unfold f7_append_48
    rw [thr0 h0, zcl_s]
    refine zok_t rfl (zok_cm (n_puts a1 hb (by omega)) (fun m1 h1 => zok_cm (n_puts a2 h1.1 (by rw [List.length_append]; omega)) (fun m2 h2 => zok_cm (n_puts a3 h2.1 (by simp only [List.length_append]; omega)) (fun m3 h3 => zok_cm (n_puts a4 h3.1 (by simp only [List.length_append]; omega)) (fun m4 h4 => zok_cm (n_puts a5 h4.1 (by simp only [List.length_append]; omega)) (fun m5 h5 => zok_some (Or.inr ⟨by omega, ?_, ?_, ?_, ?_⟩)))))))
    · exact h5.1.1
    · exact hR1.bb ((((h1.2.tr h2.2).tr h3.2).tr h4.2).tr h5.2) h5.1
    · exact (((((h1.2.tr h2.2).tr h3.2).tr h4.2).tr h5.2).2.2 0 (by decide)).trans h0
    · exact fr.tr (((((h1.2.tr h2.2).tr h3.2).tr h4.2).tr h5.2).1.mono (fun c hc => by omega))
  · unfold f7_append_48
    rw [thr1 h0 (by decide), zcl_s]
    exact zok_f (by decide) (zok_some (Or.inl ⟨by omega, hR1.z 1, zI_eq rfl rfl, fr.sI (by omega)⟩))
theorem c_errorCode (hR : rC A μ) : zok (f5_errorCode μ) (fun r => r = (aE A).1) := zok_some hR.2.2.2.1.1
theorem c_errorPosition (hR : rC A μ) : zok (f5_errorPosition μ) (fun r => r = (aE A).2) := zok_some hR.2.2.2.1.2
end bApp
