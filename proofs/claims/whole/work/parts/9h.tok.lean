/-! THE REFERENCE'S READER: bytes and tokens -/
def mdK (b : List Int) (μ : zM) : Prop := zI μ 292 10 = b.length ∧ ∀ i, i < b.length → zI μ 313 i = b.getD i 0
def mTk (μ m : zM) : Prop := zSm (fun c => c ≠ 292) μ m ∧ (∀ i, zR m 292 i = zR μ 292 i) ∧ ∀ i, i ≠ 14 → i ≠ 15 → i ≠ 16 → i ≠ 17 → zI m 292 i = zI μ 292 i
theorem mTk.rf {μ : zM} : mTk μ μ := ⟨zSm.rf, fun _ => rfl, fun _ _ _ _ _ => rfl⟩
theorem mTk.tr {μ m m' : zM} (h : mTk μ m) (h' : mTk m m') : mTk μ m' := ⟨h.1.tr h'.1, fun i => (h'.2.1 i).trans (h.2.1 i), fun i a b c d => (h'.2.2 i a b c d).trans (h.2.2 i a b c d)⟩
theorem mTk.s {μ : zM} {j : Nat} (hj : j = 14 ∨ j = 15 ∨ j = 16 ∨ j = 17) (v : Int) : mTk μ (zsI μ 292 j v) := ⟨zSm.rf.sI (fun h => h rfl), fun _ => rfl, fun i _ _ _ _ => zI_ni (by omega)⟩
theorem mTk.k {b : List Int} {μ m : zM} (h : mTk μ m) (hK : mdK b μ) : mdK b m := ⟨(h.2.2 10 (by decide) (by decide) (by decide) (by decide)).trans hK.1, fun i hi => ((h.1 313 (by decide) i).1).trans (hK.2 i hi)⟩
section tok
variable {b : List Int} {p q : Nat} {μ m : zM}
theorem n_byteAt (hb : byB b) (hK : mdK b μ) (p : Nat) : zok (f7_byteAt (p : Nat) μ) (fun r => r = bt b p) := by
  have h7 := hb.1
  unfold f7_byteAt
  rw [hK.1]
  refine zok_if (fun c => zok_some (bt_out (by omega)).symm) (fun c => zok_gd ⟨by omega, by rw [zl_m.2.2.2.2.2.2.1]; omega⟩ (zok_some ?_))
  rw [zx_nat, hK.2 p (by omega), bt_in (by omega)]
theorem n_isLetter (x : Int) : zok (f7_isLetter x) (fun r => r = isLt x) := by
  unfold f7_isLetter
  rw [win_eq, zco_s]
  exact zok_some rfl
/-- where a token that begins at q ends -/
def tkE (b : List Int) (q : Nat) : Nat := if isLt (bt b q) = true then spn isLt b q else if bt b q = -1 then q else q + 1
theorem n_token (hb : byB b) (hK : mdK b μ) (hp : zI μ 292 14 = (p : Nat)) (hpl : p ≤ b.length) : zok (f7_token μ) (fun m => mTk μ m ∧ zI m 292 15 = (spn isBl b p : Nat) ∧ zI m 292 17 = zb (isLt (bt b (spn isBl b p))) ∧ zI m 292 14 = (tkE b (spn isBl b p) : Nat) ∧ zI m 292 16 = (tkE b (spn isBl b p) : Nat)) := by
  have h7 := hb.1
  unfold f7_token
  refine zok_x1 (fun m => ∃ j : Nat, zI m 292 14 = j ∧ p ≤ j ∧ j ≤ b.length ∧ mTk μ m ∧ ∀ i, p ≤ i → i < j → i < b.length ∧ isBl (b.getD i 0) = true) (fun m => 701 - (zI m 292 14).toNat) (fun kk m hx ih => ?_) zFu μ ⟨p, hp, Nat.le_refl _, hpl, mTk.rf, fun i h1 h2 => by omega⟩ (by show 701 - _ < 100000; omega)
  obtain ⟨j, j0, j1, j2, j3, j4⟩ := hx
  have hj := bt_r hb j
  have K := j3.k hK
  have on : isBl (bt b j) = true → zok (f7_token_26 kk m) (fun m => mTk μ m ∧ zI m 292 15 = (spn isBl b p : Nat) ∧ zI m 292 17 = zb (isLt (bt b (spn isBl b p))) ∧ zI m 292 14 = (tkE b (spn isBl b p) : Nat) ∧ zI m 292 16 = (tkE b (spn isBl b p) : Nat)) := fun hbl => by
    have hin : j < b.length := by
      rcases hj with ⟨a, -⟩ | ⟨-, -, a⟩
      · rw [a] at hbl; cases hbl
      · exact a
    unfold f7_token_26
    rw [j0]
    refine zok_gl ⟨by omega, by omega⟩ (zok_lt (ih _ ⟨j + 1, by rw [zI_eq rfl rfl]; omega, by omega, by omega, j3.tr (mTk.s (Or.inl rfl) _), fun i h1 h2 => ?_⟩ (by rw [zI_eq rfl rfl, j0]; omega)))
    by_cases e : i = j
    · rw [e]; exact ⟨hin, by rw [← bt_in hin]; exact hbl⟩
    · exact j4 i h1 (by omega)
  unfold f7_token_0
  rw [j0]
  refine zok_co (n_byteAt hb K j) (fun r er => ?_)
  subst er
  refine zok_if (fun c => on (decide_eq_true (Or.inl c))) (fun c1 => zok_co (n_byteAt hb K j) (fun r er => ?_))
  subst er
  refine zok_if (fun c => on (decide_eq_true (Or.inr c))) (fun c2 => zok_lt ?_)
  have hs : spn isBl b p = j := spn_eq j1 j4 (fun h => by rw [← bt_in h]; exact decide_eq_false (fun q => q.elim c1 c2))
  rw [hs]
  have T1 : mTk m (zsI m 292 15 (j : Nat)) := mTk.s (Or.inr (Or.inl rfl)) _
  rw [zI_ni (show (14 : Nat) ≠ 15 by decide), j0]
  refine zok_co (n_byteAt hb (T1.k K) j) (fun r er => ?_)
  subst er
  refine zok_co (n_isLetter _) (fun r er => ?_)
  subst er
  refine zok_gd (by cases isLt (bt b j) <;> simp [zb]) (zok_lt ?_)
  have T2 : mTk μ (zsI (zsI m 292 15 (j : Nat)) 292 17 (zb (isLt (bt b j)))) := (j3.tr T1).tr (mTk.s (Or.inr (Or.inr (Or.inr rfl))) _)
  refine zok_x1 (fun m2 => mTk μ m2 ∧ zI m2 292 15 = (j : Nat) ∧ zI m2 292 17 = zb (isLt (bt b j)) ∧ ∃ i : Nat, zI m2 292 14 = i ∧ j ≤ i ∧ i ≤ b.length ∧ ∀ y, j ≤ y → y < i → y < b.length ∧ isLt (b.getD y 0) = true) (fun m2 => 701 - (zI m2 292 14).toNat) (fun kk m2 hx ih => ?_) zFu _ ⟨T2, by rw [zI_ni (by decide), zI_eq rfl rfl], zI_eq rfl rfl, j, by rw [zI_ni (by decide), zI_ni (by decide), j0], Nat.le_refl _, j2, fun y h1 h2 => by omega⟩ (by show 701 - _ < 100000; omega)
  obtain ⟨x1, x2, x3, i, x4, x5, x6, x7⟩ := hx
  have K2 := x1.k hK
  have hi := bt_r hb i
  have out : ∀ s0 : Int, (i : Int) + s0 = (tkE b j : Nat) → (0 ≤ s0 ∧ s0 ≤ 1) → zok (f7_token_118 s0 (i : Nat) m2) (fun m => mTk μ m ∧ zI m 292 15 = (j : Nat) ∧ zI m 292 17 = zb (isLt (bt b j)) ∧ zI m 292 14 = (tkE b j : Nat) ∧ zI m 292 16 = (tkE b j : Nat)) := fun s0 h1 h2 => by
    unfold f7_token_118
    refine zok_gl ⟨by omega, by omega⟩ (zok_lt (zok_lt (zok_some ⟨(x1.tr (mTk.s (Or.inl rfl) _)).tr (mTk.s (Or.inr (Or.inr (Or.inl rfl))) _), ?_, ?_, ?_, ?_⟩)))
    · rw [zI_ni (by decide), zI_ni (by decide), x2]
    · rw [zI_ni (by decide), zI_ni (by decide), x3]
    · rw [zI_ni (by decide), zI_eq rfl rfl]; exact h1
    · rw [zI_eq rfl rfl, zI_eq rfl rfl]; exact h1
  unfold f7_token_62
  rw [x4]
  refine zok_co (n_byteAt hb K2 i) (fun r er => ?_)
  subst er
  refine zok_co (n_isLetter _) (fun r er => ?_)
  subst er
  cases hl : isLt (bt b i) with
  | true =>
    have hin : i < b.length := by
      rcases hi with ⟨a, -⟩ | ⟨-, -, a⟩
      · rw [a] at hl; cases hl
      · exact a
    refine zok_f (by decide) (zok_gl ⟨by omega, by omega⟩ (zok_lt (ih _ ⟨x1.tr (mTk.s (Or.inl rfl) _), (zI_ni (by decide)).trans x2, (zI_ni (by decide)).trans x3, i + 1, by rw [zI_eq rfl rfl]; omega, by omega, by omega, fun y h1 h2 => ?_⟩ (by rw [zI_eq rfl rfl, x4]; omega))))
    by_cases e : y = i
    · rw [e]; exact ⟨hin, by rw [← bt_in hin]; exact hl⟩
    · exact x7 y h1 (by omega)
  | false =>
    refine zok_t rfl ?_
    rw [x3]
    cases hlj : isLt (bt b j) with
    | true =>
      rw [hlj] at out
      have hsp : spn isLt b j = i := spn_eq x5 x7 (fun h => by rw [← bt_in h]; exact hl)
      exact zok_f (by decide) (out 0 (by unfold tkE; rw [if_pos hlj, hsp]; omega) ⟨by decide, by decide⟩)
    | false =>
      rw [hlj] at out
      have hij : i = j := by
        by_cases e : i = j
        · exact e
        · have := x7 j (Nat.le_refl _) (by omega)
          rw [bt_in this.1, this.2] at hlj; cases hlj
      refine zok_t rfl (zok_co (n_byteAt hb K2 i) (fun r er => ?_))
      subst er
      refine zok_if (fun c => out 0 ?_ ⟨by decide, by decide⟩) (fun c => out 1 ?_ ⟨by decide, by decide⟩)
      · rw [hij] at c ⊢; unfold tkE; rw [if_neg (by rw [hlj]; decide), if_pos c]; omega
      · rw [hij] at c ⊢; unfold tkE; rw [if_neg (by rw [hlj]; decide), if_neg c]; omega
end tok
