/-! WHICH SNIPPET IS NAMED SO -/
def wNm (A : zA) : Prop := ∀ i j, i < j → j < aN A → sNm (aL A i) ≠ sNm (aL A j)
def fndI (L : Nat → zSn) (b : List Int) : Nat → Int
  | 0 => -1
  | n + 1 => if sNm (L n) = b then (n : Nat) else fndI L b n
theorem fndI_no {L : Nat → zSn} {b : List Int} {n : Nat} (h : ∀ k, k < n → sNm (L k) ≠ b) : fndI L b n = -1 := by
  induction n with
  | zero => rfl
  | succ n ih =>
    show (if _ then _ else _) = _
    rw [if_neg (h n (by omega))]
    exact ih (fun k hk => h k (by omega))
theorem fndI_at {L : Nat → zSn} {b : List Int} {n k : Nat} (hN : ∀ i j, i < j → j < n → sNm (L i) ≠ sNm (L j)) (hk : k < n) (h : sNm (L k) = b) : fndI L b n = (k : Nat) := by
  induction n with
  | zero => omega
  | succ n ih =>
    show (if _ then _ else _) = _
    by_cases q : k = n
    · rw [if_pos (by rw [← q]; exact h), q]
    · rw [if_neg (fun e => hN k n (by omega) (by omega) (h.trans e.symm))]
      exact ih (fun i j h1 h2 => hN i j h1 (by omega)) (by omega)
theorem list_getD {a b : List Int} (hl : a.length = b.length) (h : ∀ i, i < a.length → a.getD i 0 = b.getD i 0) : a = b := List.ext_getElem hl (fun i h1 h2 => by
  have := h i h1
  rw [List.getD_eq_getElem?_getD, List.getD_eq_getElem?_getD, List.getElem?_eq_getElem h1, List.getElem?_eq_getElem h2] at this
  exact this)
section find
variable {A : zA} {c : Int} {μ m : zM} {b : List Int} {S : zSn} {t : Nat}
/-- a name of the class against bytes of a row -/
theorem c_isNamed {r p : Nat} (ht : okT t) (hS : pSc μ t S) (hW : wS S) (hb : ∀ i, i < b.length → zI μ r (p + i) = b.getD i 0) (hz : p + b.length ≤ zln r) (hr : zln r ≤ 100000) : zok (f2_isNamed t r (p : Int) (b.length : Int) μ) (fun x => x = decide (sNm S = b)) := by
  obtain ⟨q1, q2, q3, q4, -⟩ := ht.f
  have hn := hW.2.1
  unfold f2_isNamed
  rw [hS.1]
  refine zok_if (fun h => ?_) (fun h => zok_some (decide_eq_false (fun e => h (by rw [e]))).symm)
  have hl : (sNm S).length = b.length := by omega
  refine zok_x1 (fun (x : Int) => ∃ j : Nat, x = j ∧ j ≤ b.length ∧ ∀ i, i < j → (sNm S).getD i 0 = b.getD i 0) (fun x => b.length - x.toNat) (fun kk x hx ih => ?_) zFu 0 ⟨0, rfl, by omega, fun i hi => absurd hi (Nat.not_lt_zero i)⟩ (by show b.length - 0 < 100000; omega)
  obtain ⟨j, rfl, j1, j2⟩ := hx
  unfold f2_isNamed_13
  rw [hS.1, q3, q4]
  refine zok_if (fun h9 => zok_some (decide_eq_true (list_getD hl (fun i hi => j2 i (by omega)))).symm) (fun h9 => zok_gd ⟨by omega, by omega⟩ (zok_gl ⟨by omega, by omega⟩ (zok_gd ⟨by omega, by omega⟩ ?_)))
  rw [zx_nat, hS.2.1 j (by omega), show zx ((p : Int) + (j : Int)) = p + j from by show (_ : Int).toNat = _; omega, hb j (by omega)]
  refine zok_if (fun h8 => zok_gl ⟨by omega, by omega⟩ (ih _ ⟨j + 1, by omega, by omega, fun i hi => ?_⟩ (by show b.length - ((j : Int) + 1).toNat < b.length - (j : Int).toNat; omega))) (fun h8 => zok_some (decide_eq_false (fun e => h8 (by rw [e]))).symm)
  by_cases q : i = j
  · rw [q]; exact h8
  · exact j2 i (by omega)
theorem c_indexOf {L : Nat → zSn} {n r p : Nat} (ht : t = 7 ∨ t = 101) (hn : n ≤ 8) (h1 : zI μ t 1 = n) (h2 : ∀ k, k < n → pSc μ (t + 4 + 11 * k) (L k)) (hW : ∀ k, k < n → wS (L k)) (hN : ∀ i j, i < j → j < n → sNm (L i) ≠ sNm (L j)) (hb : ∀ i, i < b.length → zI μ r (p + i) = b.getD i 0) (hz : p + b.length ≤ zln r) (hr : zln r ≤ 100000) : zok (f0_indexOf t r (p : Int) (b.length : Int) μ) (fun x => x = fndI L b n) := by
  unfold f0_indexOf
  refine zok_x1 (fun (x : Int) => ∃ j : Nat, x = j ∧ j ≤ n ∧ ∀ i, i < j → sNm (L i) ≠ b) (fun x => n - x.toNat) (fun kk x hx ih => ?_) zFu 0 ⟨0, rfl, by omega, fun i hi => absurd hi (Nat.not_lt_zero i)⟩ (by show n - 0 < 100000; omega)
  obtain ⟨j, rfl, j1, j2⟩ := hx
  unfold f0_indexOf_3
  rw [h1, zln_lib ht]
  refine zok_if (fun h9 => zok_some (fndI_no (fun k hk => j2 k (by omega))).symm) (fun h9 => zok_gd ⟨by omega, by omega⟩ ?_)
  rw [zx_nat]
  refine zok_co (c_isNamed (okT_k ht (by omega)) (h2 j (by omega)) (hW j (by omega)) hb hz hr) (fun x hx => ?_)
  subst hx
  by_cases q : sNm (L j) = b
  · rw [decide_eq_true q]
    exact zok_f (by decide) (zok_some (fndI_at hN (by omega) q).symm)
  · rw [decide_eq_false q]
    refine zok_t rfl (zok_gl ⟨by omega, by omega⟩ (ih _ ⟨j + 1, by omega, by omega, fun i hi => ?_⟩ (by show n - ((j : Int) + 1).toNat < n - (j : Int).toNat; omega)))
    by_cases e : i = j
    · rw [e]; exact q
    · exact j2 i (by omega)
theorem c_find (hA : wA c A) (hN : wNm A) (hR : rC A μ) : zok (f5_find μ) (fun r => r.1 = fndI (aL A) (aB A) (aN A) ∧ rC (setB A []) r.2 ∧ zSm (fun c => 292 ≤ c) μ r.2) := by
  obtain ⟨t, t1, t2, t3, t4, t5⟩ := hR.1
  have lb := hA.2.2.2.2.1.1
  have hb := hR.2.2.1
  unfold f5_find
  rw [t2, hb.1]
  refine zok_co (c_indexOf (p := 0) t1 hA.1.1 t4 t5 hA.1.2 hN (fun i hi => by rw [Nat.zero_add]; exact hb.2 i hi) (by rw [zln_c.1]; omega) (by rw [zln_c.1]; decide)) (fun x hx => zok_lt (zok_some ⟨hx, hR.b0 hA.1.1, zSm.rf.sI (by omega)⟩))
theorem n_isName {bb k : Nat} (hb : okB bb) (hk : k < 8) (hS : pSm μ bb k S) (hW : wS S) {p : Nat} (hr : ∀ i, i < b.length → zI μ 313 (p + i) = b.getD i 0) (hz : p + b.length ≤ 700) : zok (f7_isName bb (k : Int) (p : Int) (b.length : Int) μ) (fun x => x = decide (sNm S = b)) := by
  obtain ⟨b1, b2, -⟩ := okB_f hb
  have hn := hW.2.1
  have h313 := zl_m.2.2.2.2.2.2.1
  unfold f7_isName
  rw [b2, zx_nat, hS.1]
  refine zok_gd ⟨by omega, by omega⟩ (zok_if (fun h => ?_) (fun h => ?_))
  · have hl : (sNm S).length = b.length := by omega
    refine zok_x2 (fun (x5 x6 : Int) => ∃ j : Nat, x6 = j ∧ j ≤ b.length ∧ ((x5 = 1 ∧ ∀ i, i < j → (sNm S).getD i 0 = b.getD i 0) ∨ (x5 = 0 ∧ sNm S ≠ b))) (fun _ x => b.length - x.toNat) (fun kk x5 x hx ih => ?_) zFu 1 0 ⟨0, rfl, by omega, Or.inl ⟨rfl, fun i hi => absurd hi (Nat.not_lt_zero i)⟩⟩ (by show b.length - 0 < 100000; omega)
    obtain ⟨j, rfl, j1, j2⟩ := hx
    unfold f7_isName_21
    rw [b1, h313]
    rcases j2 with ⟨rfl, j2⟩ | ⟨rfl, j2⟩
    · refine zok_if (fun h9 => zok_gd (Or.inr rfl) (zok_some ?_)) (fun h9 => zok_f (by decide) (zok_gl ⟨by omega, by omega⟩ (zok_gl ⟨by omega, by omega⟩ (zok_gd ⟨by omega, by omega⟩ (zok_gl ⟨by omega, by omega⟩ (zok_gd ⟨by omega, by omega⟩ ?_))))))
      · rw [decide_eq_true (list_getD hl (fun i hi => j2 i (by omega)))]; rfl
      · rw [show zx (8 * (k : Int) + (j : Int)) = 8 * k + j from by show (_ : Int).toNat = _; omega, hS.2.1 j (by omega), show zx ((p : Int) + (j : Int)) = p + j from by show (_ : Int).toNat = _; omega, hr j (by omega)]
        refine zok_if (fun h8 => zok_gl ⟨by omega, by omega⟩ (ih _ _ ⟨j + 1, by omega, by omega, Or.inl ⟨rfl, fun i hi => ?_⟩⟩ (by show b.length - ((j : Int) + 1).toNat < b.length - (j : Int).toNat; omega))) (fun h8 => zok_gl ⟨by omega, by omega⟩ (ih _ _ ⟨j + 1, by omega, by omega, Or.inr ⟨rfl, fun e => h8 (by rw [e])⟩⟩ (by show b.length - ((j : Int) + 1).toNat < b.length - (j : Int).toNat; omega)))
        by_cases q : i = j
        · rw [q]; exact h8
        · exact j2 i (by omega)
    · refine zok_if (fun h9 => zok_gd (Or.inl rfl) (zok_some ?_)) (fun h9 => zok_t rfl (zok_gd (Or.inl rfl) (zok_some ?_)))
      · rw [decide_eq_false j2]; rfl
      · rw [decide_eq_false j2]; rfl
  · have hne : sNm S ≠ b := fun e => h (by rw [e])
    refine zok_x2 (fun (x5 x6 : Int) => x5 = 0) (fun _ x => 0) (fun kk x5 x hx ih => ?_) zFu 0 0 rfl (by decide)
    subst hx
    unfold f7_isName_21
    refine zok_if (fun h9 => zok_gd (Or.inl rfl) (zok_some ?_)) (fun h9 => zok_t rfl (zok_gd (Or.inl rfl) (zok_some ?_)))
    · rw [decide_eq_false hne]; rfl
    · rw [decide_eq_false hne]; rfl
theorem n_find (hA : wA c A) (hN : wNm A) (hR : rM A μ) : zok (f7_find μ) (fun r => r.1 = fndI (aL A) (aB A) (aN A) ∧ rM (setB A []) r.2 ∧ zI r.2 292 0 = 0 ∧ zSm (fun c => c < 292 ∨ 338 < c) μ r.2) := by
  obtain ⟨hR1, h0⟩ := z0 hR
  have fr : zSm (fun c => c < 292 ∨ 338 < c) μ (zsI μ 292 0 0) := zSm.rf.sI (by omega)
  obtain ⟨b, b1, b2, b3, b4, b5⟩ := hR1.1
  have lb := hA.2.2.2.2.1.1
  have hb := hR1.2.2.1
  have hn := hA.1.1
  unfold f7_find
  refine zok_lt ?_
  generalize zsI μ 292 0 0 = μ1 at *
  refine zok_x3 (fun (x1 x2 : Int) m => m = μ1 ∧ ∃ j : Nat, x2 = j ∧ j ≤ aN A ∧ x1 = fndI (aL A) (aB A) j) (fun _ x2 _ => aN A - x2.toNat) (fun kk x1 x2 m hx ih => ?_) zFu (-1) 0 μ1 ⟨rfl, 0, rfl, by omega, rfl⟩ (by show aN A - 0 < 100000; omega)
  obtain ⟨rfl, j, rfl, j1, rfl⟩ := hx
  have fin : ∀ x1 : Int, x1 = fndI (aL A) (aB A) (aN A) → zok (f7_find_58 x1 m) (fun r => r.1 = fndI (aL A) (aB A) (aN A) ∧ rM (setB A []) r.2 ∧ zI r.2 292 0 = 0 ∧ zSm (fun c => c < 292 ∨ 338 < c) μ r.2) := fun x1 h => by
    unfold f7_find_58
    exact zok_lt (zok_some ⟨h, hR1.b0, (zI_ni (by decide)).trans h0, fr.sI (by omega)⟩)
  have h8 : ∀ j, j ≤ aN A → 8 < (aB A).length → fndI (aL A) (aB A) j = -1 := fun j hj h => fndI_no (fun k hk e => by
    have := (hA.1.2 k (by omega)).2.1
    rw [e] at this
    omega)
  unfold f7_find_9
  rw [b2, b4, hb.1]
  refine zok_if (fun h9 => fin _ (by rw [show j = aN A by omega])) (fun h9 => zok_if (fun h7 => fin _ (by rw [h8 j (by omega) (by omega), h8 (aN A) (by omega) (by omega)])) (fun h7 => ?_))
  refine zok_co (n_isName (p := 0) b1 (by omega) (b5 j (by omega)) (hA.1.2 j (by omega)) (fun i hi => by rw [Nat.zero_add]; exact hb.2 i hi) (by omega)) (fun x hx => ?_)
  subst hx
  have e : fndI (aL A) (aB A) (j + 1) = if sNm (aL A j) = aB A then ((j : Nat) : Int) else fndI (aL A) (aB A) j := rfl
  by_cases q : sNm (aL A j) = aB A
  · rw [if_pos q] at e
    rw [decide_eq_true q]
    exact zok_f (by decide) (zok_gl ⟨by omega, by omega⟩ (ih _ _ _ ⟨rfl, j + 1, by omega, by omega, e.symm⟩ (by show aN A - ((j : Int) + 1).toNat < aN A - (j : Int).toNat; omega)))
  · rw [if_neg q] at e
    rw [decide_eq_false q]
    exact zok_t rfl (zok_gl ⟨by omega, by omega⟩ (ih _ _ _ ⟨rfl, j + 1, by omega, by omega, e.symm⟩ (by show aN A - ((j : Int) + 1).toNat < aN A - (j : Int).toNat; omega)))
end find
