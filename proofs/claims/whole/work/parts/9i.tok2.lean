/-! THE REFERENCE'S READER: what a token is -/
section tok2
variable {b : List Int} {p q e : Nat} {μ m : zM}
theorem n_is (hb : byB b) (hK : mdK b μ) {s : Nat} {W : List Int} (hs : isStr s W) (hW : 0 < W.length) {lt : Bool} (h15 : zI μ 292 15 = (q : Nat)) (h16 : zI μ 292 16 = (e : Nat)) (h17 : zI μ 292 17 = zb lt) (hqe : q ≤ e) (he : e ≤ b.length) : zok (f7_is s μ) (fun r => r = (lt && decide (wrd b q e = W))) := by
  have h7 := hb.1
  obtain ⟨s1, s2, s3, s4⟩ := hs
  have hl := wrd_len hqe he
  have no : zok (f7_is_27 s μ) (fun r => r = false) := by
    unfold f7_is_27
    refine zok_x2 (fun (x2 x3 : Int) => x2 = 0 ∧ x3 = 0) (fun _ _ => 0) (fun kk x2 x3 hx ih => ?_) zFu 0 0 ⟨rfl, rfl⟩ (by decide)
    obtain ⟨rfl, rfl⟩ := hx
    unfold f7_is_31
    refine zok_gd s1 (zok_lt ?_)
    rw [s2]
    exact zok_f (by omega) (zok_t rfl (zok_gd (Or.inl rfl) (zok_some rfl)))
  unfold f7_is
  rw [h17, h16, h15]
  cases lt with
  | false => exact zok_t rfl (zok_mono no (fun r hr => by rw [hr]; rfl))
  | true =>
    refine zok_f (by decide) (zok_gl ⟨by omega, by omega⟩ (zok_gd s1 (zok_lt ?_)))
    rw [s2]
    refine zok_if (fun c => ?_) (fun c => zok_mono no (fun r hr => by rw [hr, decide_eq_false (fun q => c (by rw [← q, hl]; omega))]; rfl))
    refine zok_x2 (fun (x2 x3 : Int) => ∃ j : Nat, x3 = j ∧ j ≤ W.length ∧ ((x2 = 1 ∧ ∀ i, i < j → (wrd b q e).getD i 0 = W.getD i 0) ∨ (x2 = 0 ∧ wrd b q e ≠ W))) (fun _ x3 => W.length - x3.toNat) (fun kk x2 x3 hx ih => ?_) zFu 1 0 ⟨0, rfl, Nat.zero_le _, Or.inl ⟨rfl, fun i hi => absurd hi (Nat.not_lt_zero i)⟩⟩ (by show W.length - 0 < 100000; omega)
    obtain ⟨j, rfl, j1, j2⟩ := hx
    unfold f7_is_31
    refine zok_gd s1 (zok_lt ?_)
    rw [s2]
    rcases j2 with ⟨rfl, j2⟩ | ⟨rfl, j2⟩
    · refine zok_if (fun c9 => zok_gd (Or.inr rfl) (zok_some ?_)) (fun c9 => zok_f (by decide) ?_)
      · rw [decide_eq_true (list_getD (by omega) (fun i hi => j2 i (by omega)))]; rfl
      · rw [h15]
        refine zok_gl ⟨by omega, by omega⟩ (zok_gd ⟨by omega, by rw [zl_m.2.2.2.2.2.2.1]; omega⟩ (zok_gd ⟨s1, by omega, by omega⟩ (zok_lt ?_)))
        rw [show zx ((q : Int) + (j : Int)) = q + j from by show (_ : Int).toNat = _; omega, hK.2 (q + j) (by omega), zx_nat, s4 j (by omega), ← wrd_get (b := b) (p := q) (e := e) (i := j) (by omega)]
        refine zok_if (fun c8 => zok_gl ⟨by omega, by omega⟩ (ih _ _ ⟨j + 1, by omega, by omega, Or.inl ⟨rfl, fun i hi => ?_⟩⟩ (by show W.length - ((j : Int) + 1).toNat < W.length - (j : Int).toNat; omega))) (fun c8 => zok_gl ⟨by omega, by omega⟩ (ih _ _ ⟨j + 1, by omega, by omega, Or.inr ⟨rfl, fun q => c8 (by rw [q])⟩⟩ (by show W.length - ((j : Int) + 1).toNat < W.length - (j : Int).toNat; omega)))
        by_cases e : i = j
        · rw [e]; exact c8
        · exact j2 i (by omega)
    · refine zok_if (fun c9 => zok_gd (Or.inl rfl) (zok_some ?_)) (fun c9 => zok_t rfl (zok_gd (Or.inl rfl) (zok_some ?_)))
      · rw [decide_eq_false j2]; rfl
      · rw [decide_eq_false j2]; rfl
theorem n_isSign (hb : byB b) (hK : mdK b μ) {lt : Bool} (h15 : zI μ 292 15 = (q : Nat)) (h17 : zI μ 292 17 = zb lt) (x : Int) : zok (f7_isSign x μ) (fun r => r = (!lt && decide (bt b q = x))) := by
  unfold f7_isSign
  rw [h17, h15]
  cases lt with
  | true => exact zok_f (by decide) (zok_some rfl)
  | false =>
    refine zok_t rfl (zok_co (n_byteAt hb hK q) (fun r er => ?_))
    subst er
    exact zok_if (fun c => zok_some (by rw [decide_eq_true c]; rfl)) (fun c => zok_some (by rw [decide_eq_false c]; rfl))
/-- a fault is told, the first one stays -/
theorem n_fails (k v : Int) (h : zI μ 292 11 = 0) : zok (f7_fails k v μ) (fun r => r.1 = false ∧ r.2 = zsI (zsI μ 292 11 k) 292 12 v) := by
  unfold f7_fails
  rw [h]
  exact zok_t rfl (zok_lt (zok_lt (zok_some ⟨rfl, rfl⟩)))
end tok2
