/-! THE CLASS'S READER: blanks, words -/
section cl
variable {b : List Int} {p : Nat} {μ m : zM}
/-- all but the place stays -/
def rdP (μ m : zM) : Prop := zSm (fun c => c ≠ 99) μ m ∧ (∀ i, zR m 99 i = zR μ 99 i) ∧ ∀ i, i ≠ 2 → zI m 99 i = zI μ 99 i
theorem rdP.rf : rdP μ μ := ⟨zSm.rf, fun _ => rfl, fun _ _ => rfl⟩
theorem rdP.tr {m' : zM} (h : rdP μ m) (h' : rdP m m') : rdP μ m' := ⟨h.1.tr h'.1, fun i => (h'.2.1 i).trans (h.2.1 i), fun i hi => (h'.2.2 i hi).trans (h.2.2 i hi)⟩
theorem rdP.set (v : Int) : rdP μ (zsI μ 99 2 v) := ⟨zSm.rf.sI (fun h => h rfl), fun _ => rfl, fun i hi => zI_ni hi⟩
theorem rdK.set (h : rdK b μ p) {q : Nat} {v : Int} (hv : v = (q : Nat)) : rdK b (zsI μ 99 2 v) q := ⟨h.1, (zI_ni (by decide)).trans h.2.1, (zI_eq rfl rfl).trans hv, fun i hi => (zI_nk (by decide)).trans (h.2.2.2 i hi)⟩
theorem c_skip (hb : byB b) (h : rdK b μ p) (hp : p ≤ 100000) : zok (f1_skipBlanks μ) (fun m => rdK b m (spn isBl b p) ∧ rdP μ m) := by
  have h7 := hb.1
  unfold f1_skipBlanks
  refine zok_lt ?_
  rw [h.2.2.1]
  refine zok_x2 (fun (x : Int) m => ∃ j : Nat, x = j ∧ p ≤ j ∧ (j = p ∨ j ≤ b.length) ∧ rdK b m j ∧ rdP μ m ∧ ∀ i, p ≤ i → i < j → i < b.length ∧ isBl (b.getD i 0) = true) (fun x _ => 701 - x.toNat) (fun kk x m hx ih => ?_) zFu _ μ ⟨p, rfl, Nat.le_refl _, Or.inl rfl, h, rdP.rf, fun i h1 h2 => by omega⟩ (by show 701 - _ < 100000; omega)
  obtain ⟨j, rfl, j1, j2, j3, j4, j5⟩ := hx
  unfold f1_skipBlanks_5
  rw [j3.2.1, j3.1]
  refine zok_if (fun c => zok_some ?_) (fun c => zok_gd ⟨by omega, by rw [zln_c.1]; omega⟩ ?_)
  · rw [spn_eq j1 j5 (fun h => by omega)]; exact ⟨j3, j4⟩
  · rw [zx_nat, j3.2.2.2 j (by omega)]
    have on : isBl (b.getD j 0) = true → zok (f1_skipBlanks_35 kk (j : Int) m) (fun m => rdK b m (spn isBl b p) ∧ rdP μ m) := fun hj => by
      unfold f1_skipBlanks_35
      refine zok_gl ⟨by omega, by omega⟩ (zok_lt (zok_gl ⟨by omega, by omega⟩ (ih _ _ ⟨j + 1, by omega, by omega, by omega, j3.set (by omega), j4.tr (rdP.set _), fun i h1 h2 => ?_⟩ (by show 701 - ((j : Int) + 1).toNat < 701 - (j : Int).toNat; omega))))
      by_cases e : i = j
      · rw [e]; exact ⟨by omega, hj⟩
      · exact j5 i h1 (by omega)
    refine zok_if (fun c1 => on (decide_eq_true (Or.inl c1))) (fun c1 => zok_gd ⟨by omega, by rw [zln_c.1]; omega⟩ (zok_if (fun c2 => on (decide_eq_true (Or.inr c2))) (fun c2 => zok_some ?_)))
    rw [spn_eq j1 j5 (fun h => decide_eq_false (fun q => q.elim c1 c2))]; exact ⟨j3, j4⟩
theorem c_endW (hb : byB b) (h : rdK b μ p) (hp : p ≤ 100000) : zok (f1_endOfWord μ) (fun r => r = (spn isLt b p : Nat)) := by
  have h7 := hb.1
  unfold f1_endOfWord
  refine zok_lt (zok_lt ?_)
  rw [h.2.2.1]
  refine zok_x2 (fun (x1 x2 : Int) => ∃ j : Nat, x1 = j ∧ x2 = j ∧ p ≤ j ∧ ∀ i, p ≤ i → i < j → i < b.length ∧ isLt (b.getD i 0) = true) (fun _ x2 => 701 - x2.toNat) (fun kk x1 x2 hx ih => ?_) zFu _ _ ⟨p, rfl, rfl, Nat.le_refl _, fun i h1 h2 => by omega⟩ (by show 701 - _ < 100000; omega)
  obtain ⟨j, rfl, rfl, j1, j5⟩ := hx
  unfold f1_endOfWord_10
  rw [h.2.1, h.1]
  refine zok_if (fun c => zok_some ?_) (fun c => zok_gd ⟨by omega, by rw [zln_c.1]; omega⟩ ?_)
  · rw [spn_eq j1 j5 (fun h => by omega)]
  · rw [zx_nat, h.2.2.2 j (by omega)]
    refine zok_if (fun c1 => zok_some ?_) (fun c1 => zok_gd ⟨by omega, by rw [zln_c.1]; omega⟩ (zok_if (fun c2 => zok_some ?_) (fun c2 => zok_gl ⟨by omega, by omega⟩ (zok_gl ⟨by omega, by omega⟩ (ih _ _ ⟨j + 1, by omega, by omega, by omega, fun i h1 h2 => ?_⟩ (by show 701 - ((j : Int) + 1).toNat < 701 - (j : Int).toNat; omega))))))
    · rw [spn_eq j1 j5 (fun h => decide_eq_false (by omega))]
    · rw [spn_eq j1 j5 (fun h => decide_eq_false (by omega))]
    · by_cases e : i = j
      · rw [e]; exact ⟨by omega, decide_eq_true (by omega)⟩
      · exact j5 i h1 (by omega)
/-- the words of the program -/
def isStr (s : Nat) (W : List Int) : Prop := zsok s ∧ zslen s = (W.length : Nat) ∧ W.length ≤ 10 ∧ ∀ k, k < W.length → zsch s k = W.getD k 0
theorem str0 : isStr 0 wSnip := ⟨by decide +kernel, by decide +kernel, by decide, by decide +kernel⟩
theorem str1 : isStr 1 wOrd := ⟨by decide +kernel, by decide +kernel, by decide, by decide +kernel⟩
theorem str2 : isStr 2 wPla := ⟨by decide +kernel, by decide +kernel, by decide, by decide +kernel⟩
theorem str3 : isStr 3 wNum := ⟨by decide +kernel, by decide +kernel, by decide, by decide +kernel⟩
theorem str17 : isStr 17 wSnip := ⟨by decide +kernel, by decide +kernel, by decide, by decide +kernel⟩
theorem str18 : isStr 18 wOrd := ⟨by decide +kernel, by decide +kernel, by decide, by decide +kernel⟩
theorem str19 : isStr 19 wNum := ⟨by decide +kernel, by decide +kernel, by decide, by decide +kernel⟩
theorem str20 : isStr 20 wPla := ⟨by decide +kernel, by decide +kernel, by decide, by decide +kernel⟩
theorem c_isWord (hb : byB b) (h : rdK b μ p) {e s : Nat} {W : List Int} (hs : isStr s W) (hpe : p ≤ e) (he : e ≤ b.length) : zok (f1_isWord (e : Int) s μ) (fun r => r = decide (wrd b p e = W)) := by
  have h7 := hb.1
  obtain ⟨s1, s2, s3, s4⟩ := hs
  have hl := wrd_len hpe he
  unfold f1_isWord
  rw [h.2.2.1]
  refine zok_gl ⟨by omega, by omega⟩ (zok_gd s1 (zok_lt ?_))
  rw [s2]
  refine zok_if (fun c => ?_) (fun c => zok_some (decide_eq_false (fun q => c (by rw [← q, hl]; omega))).symm)
  refine zok_x1 (fun (x : Int) => ∃ j : Nat, x = j ∧ j ≤ W.length ∧ ∀ i, i < j → (wrd b p e).getD i 0 = W.getD i 0) (fun x => W.length - x.toNat) (fun kk x hx ih => ?_) zFu 0 ⟨0, rfl, by omega, fun i hi => absurd hi (Nat.not_lt_zero i)⟩ (by show W.length - 0 < 100000; omega)
  obtain ⟨j, rfl, j1, j2⟩ := hx
  unfold f1_isWord_17
  rw [s2, h.1, h.2.2.1]
  refine zok_gd s1 (zok_lt (zok_if (fun c9 => zok_some (decide_eq_true (list_getD (by omega) (fun i hi => j2 i (by omega)))).symm) (fun c9 => zok_gl ⟨by omega, by omega⟩ (zok_gd ⟨by omega, by rw [zln_c.1]; omega⟩ (zok_gd ⟨s1, by omega, by omega⟩ (zok_lt ?_))))))
  rw [show zx ((p : Int) + (j : Int)) = p + j from by show (_ : Int).toNat = _; omega, h.2.2.2 (p + j) (by omega), zx_nat, s4 j (by omega), ← wrd_get (b := b) (p := p) (e := e) (i := j) (by omega)]
  refine zok_if (fun c8 => zok_gl ⟨by omega, by omega⟩ (ih _ ⟨j + 1, by omega, by omega, fun i hi => ?_⟩ (by show W.length - ((j : Int) + 1).toNat < W.length - (j : Int).toNat; omega))) (fun c8 => zok_some (decide_eq_false (fun q => c8 (by rw [q]))).symm)
  by_cases q : i = j
  · rw [q]; exact c8
  · exact j2 i (by omega)
end cl
