/-! THE CLASS'S SNIPPET WHILE IT IS READ, 2 -/
def stE (S : zSn) (E : Nat → Int) : zSn := (sNm S, sN S, sF S, sC S, sD S, sP S, sG S, E, sB S, sT S)
section cb2
variable {t p : Nat} {μ m : zM} {S : zSn} {st : List Nat} {v : Int} {f : Nat}
theorem c_wdi (ht : okT t) (hw : wBu p S st) (h : pC μ t S st) (hf : f < 10) : zok (f2_wouldDependOnItself t (f : Nat) (opn st) μ) (fun r => r = tbk S st f) := by
  obtain ⟨q1, q2, q3, q4, q5, q6, q7, q8, q9, q10, q11, q12, q13, q14, q15, q16⟩ := ht.f
  obtain ⟨a1, a2, a3, a4, a5, -⟩ := h
  unfold f2_wouldDependOnItself
  cases st with
  | nil => exact zok_t rfl (zok_some rfl)
  | cons q r =>
    have hq := hw.2.1.1
    have h60 := hw.1.1
    have hF := hw.1.2.2.2.1 q hq
    have e : opn (q :: r) = (q : Nat) := rfl
    have et : tbk S (q :: r) f = (decide (f = (sF S q).toNat) || mbit (sE S f) (sF S q).toNat) := rfl
    rw [e, q3, q5, q10]
    refine zok_f (by omega) (zok_gd ⟨by omega, by omega⟩ (zok_lt ?_))
    rw [zx_nat, (a4 q hq).1]
    refine zok_if (fun h1 => zok_some ?_) (fun h1 => zok_gd ⟨by omega, by omega⟩ (zok_lt (zok_lt ?_)))
    · rw [et, decide_eq_true (by omega), Bool.true_or]
    · rw [zx_nat, a5 f hf]
      refine zok_if (fun h2 => zok_some ?_) (fun h2 => zok_some ?_)
      · rw [et, decide_eq_false (by omega), (mtest1 (by omega) (by omega)).mp h2]; rfl
      · rw [et, decide_eq_false (by omega)]
        cases hb : mbit (sE S f) (sF S q).toNat with
        | true => rfl
        | false => exact absurd ((mtest1 (by omega) (by omega)).mpr hb) h2
theorem c_addDep (ht : okT t) {E : Nat → Int} {g : Nat} (hf : f < 10) (hg : g < 10) (hE : ∀ h, h < 10 → zI μ (t + 7) h = E h) (h1 : f ≠ g) (h2 : mbit (E f) g = false) : zok (f2_addDependence t (g : Nat) (f : Nat) μ) (fun m => zSm (fun c => c ≠ t + 7) μ m ∧ ∀ h, h < 10 → zI m (t + 7) h = adE E f g h) := by
  obtain ⟨q1, q2, q3, q4, q5, q6, q7, q8, q9, q10, q11, q12, q13, q14, q15, q16⟩ := ht.f
  unfold f2_addDependence
  rw [q3, q10]
  refine zok_gd ⟨by omega, by omega⟩ (zok_lt (zok_lt ?_))
  rw [zx_nat, hE f hf]
  refine zok_x3 (fun (x3 x4 : Int) m => x3 = zor (E f) (zshl 1 (f : Nat)) ∧ ∃ j : Nat, x4 = j ∧ j ≤ 10 ∧ zSm (fun c => c ≠ t + 7) μ m ∧ (∀ h, h < j → zI m (t + 7) h = adE E f g h) ∧ ∀ h, j ≤ h → h < 10 → zI m (t + 7) h = E h) (fun _ x4 _ => 10 - x4.toNat) (fun kk x3 x4 m hx ih => ?_) zFu _ 0 μ ⟨rfl, 0, rfl, by omega, zSm.rf, fun h hh => absurd hh (Nat.not_lt_zero h), fun h _ hh => hE h hh⟩ (by show 10 - 0 < 100000; omega)
  obtain ⟨rfl, j, rfl, j1, j2, j3, j4⟩ := hx
  have step : ∀ w : Int, w = adE E f g j → j < 10 → zok (kk (zor (E f) (zshl 1 (f : Nat))) ((j : Int) + 1) (zsI m (t + 7) j w)) (fun m => zSm (fun c => c ≠ t + 7) μ m ∧ ∀ h, h < 10 → zI m (t + 7) h = adE E f g h) := fun w hw hj => by
    refine ih _ _ _ ⟨rfl, j + 1, by omega, by omega, j2.sI (fun q => q rfl), fun h hh => ?_, fun h h1 h2 => ?_⟩ (by show 10 - ((j : Int) + 1).toNat < 10 - (j : Int).toNat; omega)
    · by_cases e : h = j
      · rw [zI_eq rfl e, e]; exact hw
      · rw [zI_ni e]; exact j3 h (by omega)
    · rw [zI_ni (by omega)]; exact j4 h (by omega) h2
  have upd : j < 10 → (j = g ∨ mbit (E j) g = true) → zok (f2_addDependence_41 t (g : Nat) (f : Nat) kk (zor (E f) (zshl 1 (f : Nat))) (j : Int) m) (fun m => zSm (fun c => c ≠ t + 7) μ m ∧ ∀ h, h < 10 → zI m (t + 7) h = adE E f g h) := fun hj c => by
    unfold f2_addDependence_41
    rw [q3, q10]
    refine zok_gd ⟨by omega, by omega⟩ (zok_lt (zok_gd ⟨by omega, by omega⟩ (zok_lt (zok_gl ⟨by omega, by omega⟩ ?_))))
    rw [zx_nat, j4 j (Nat.le_refl _) hj]
    refine step _ ?_ hj
    unfold adE
    rw [if_pos c]
  unfold f2_addDependence_14
  refine zok_if (fun h9 => zok_some ⟨j2, fun h hh => j3 h (by omega)⟩) (fun h9 => zok_if (fun h8 => upd (by omega) (Or.inl (by omega))) (fun h8 => ?_))
  rw [q3, q10]
  refine zok_gd ⟨by omega, by omega⟩ (zok_lt (zok_lt ?_))
  rw [zx_nat, j4 j (Nat.le_refl _) (by omega)]
  refine zok_if (fun h7 => zok_gl ⟨by omega, by omega⟩ ?_) (fun h7 => upd (by omega) (Or.inr ?_))
  · have hb : mbit (E j) g = false := (mtest1 (x := E j) (f := (g : Nat)) (by omega) (by omega)).mp h7
    refine ih _ _ _ ⟨rfl, j + 1, by omega, by omega, j2, fun h hh => ?_, fun h h1 h2 => j4 h (by omega) h2⟩ (by show 10 - ((j : Int) + 1).toNat < 10 - (j : Int).toNat; omega)
    by_cases e : h = j
    · rw [e, j4 j (Nat.le_refl _) (by omega)]
      unfold adE
      rw [if_neg (fun q => q.elim (fun a => by omega) (fun a => by rw [hb] at a; cases a))]
    · exact j3 h (by omega)
  · cases hb : mbit (E j) g with
    | true => rfl
    | false => exact absurd ((mtest1 (x := E j) (f := (g : Nat)) (by omega) (by omega)).mpr hb) h7
end cb2
