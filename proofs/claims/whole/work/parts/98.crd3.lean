/-! THE CLASS'S READER: a dollar, and a whole body -/
section crd3
variable {b : List Int} {t n p q d o : Nat} {μ m : zM} {S : zSn} {st : List Nat} {f : Nat}
theorem c_readField (ht : okT t) (hb : byB b) (h : rdB b t n μ q S st) (hd : 48 ≤ bt b q ∧ bt b q ≤ 57) : zok (f1_readField (d : Nat) μ) (fun r => (tbk S st (bt b q - 48).toNat = true ∧ r.1 = -1 ∧ bEr t n μ (4, (d : Int)) r.2) ∨ (tbk S st (bt b q - 48).toNat = false ∧ sN S = 60 ∧ r.1 = -1 ∧ bEr t n μ (5, (d : Int)) r.2) ∨ (tbk S st (bt b q - 48).toNat = false ∧ sN S < 60 ∧ r.1 = (sN S : Nat) ∧ rdB b t n r.2 (q + 1) (adO S (opn st) (bt b q - 48).toNat) st ∧ rdF t n μ r.2 ∧ zI r.2 (t + 9) (sN S) + 1 = zI r.2 t 16)) := by
  have h7 := hb.1
  have q5 := okT_5 t ht.2 ht.1
  have q17 := okT_4 t ht.2 ht.1
  obtain ⟨q1, q2, q3, q4, qa, qb, qc, qd, qe, qf, -, -, -, -, -, q16⟩ := ht.f
  have hw := h.2.2.2.2.2.2.1
  have h60 := hw.1.1
  have hq := bt_r hb q
  have hin : q < b.length := by omega
  obtain ⟨f, hf⟩ : ∃ f : Nat, bt b q - 48 = f := ⟨(bt b q - 48).toNat, by omega⟩
  have hf10 : f < 10 := by omega
  unfold f1_readField
  rw [h.1.1, h.1.2.2.1, zx_nat, h.1.2.2.2 q hin, ← bt_in hin, h.2.1, hf, show ((f : Int)).toNat = f from rfl]
  refine zok_gd ⟨by omega, by rw [zln_c.1]; omega⟩ (zok_gl ⟨by omega, by omega⟩ ?_)
  rw [h.2.2.1]
  refine zok_co (c_wdi ht hw h.2.2.2.2.1 hf10) (fun r e => ?_)
  subst e
  by_cases c1 : tbk S st f = true
  · rw [c1]
    exact zok_f (by decide) (zok_cm (c_fail ht h hb (by decide)) (fun m hm => zok_some (Or.inl ⟨rfl, rfl, hm⟩)))
  · have c1' : tbk S st f = false := by rw [← Bool.not_eq_true]; exact c1
    rw [c1', h.2.2.2.2.1.2.2.1]
    refine zok_t rfl (zok_if (fun c2 => ?_) (fun c2 => zok_cm (c_fail ht h hb (by decide)) (fun m hm => zok_some (Or.inr (Or.inl ⟨rfl, by omega, rfl, hm⟩)))))
    refine zok_gl ⟨by omega, by omega⟩ (zok_lt ?_)
    have hm1 := h.go (p' := q + 1) (v := (q : Int) + 1) ht (Nat.le_succ q) (by omega) (by omega)
    have hF1 : rdF t n μ (zsI μ 99 2 ((q : Int) + 1)) := rdF.s9 ht (by decide) _
    have hc1 : zI (zsI μ 99 2 ((q : Int) + 1)) t 16 ≤ q := by rw [zI_nk (by omega)]; exact h.2.2.2.2.2.1.2
    generalize zsI μ 99 2 ((q : Int) + 1) = m1 at *
    -- behind what depends
    have fin : ∀ m2 : zM, pC m2 t (stE S (sE (adO S (opn st) f))) st → rdF t n m1 m2 → zI m2 t 16 = zI m1 t 16 → (∀ i, zI m2 99 i = zI m1 99 i) → (∀ i, zI m2 2 i = zI m1 2 i) → zok (f1_readField_94 (d : Nat) (f : Nat) m2) (fun r => (false = true ∧ r.1 = -1 ∧ bEr t n μ (4, (d : Int)) r.2) ∨ (false = false ∧ sN S = 60 ∧ r.1 = -1 ∧ bEr t n μ (5, (d : Int)) r.2) ∨ (false = false ∧ sN S < 60 ∧ r.1 = (sN S : Nat) ∧ rdB b t n r.2 (q + 1) (adO S (opn st) f) st ∧ rdF t n μ r.2 ∧ zI r.2 (t + 9) (sN S) + 1 = zI r.2 t 16)) := by
      intro m2 g1 g2 g3 g4 g5
      obtain ⟨⟨k1, k2, k3, k4⟩, h1, h2, h3, h4, h5, h6, h8⟩ := hm1
      unfold f1_readField_94
      rw [(g2.2.1 4).trans h1, (g4 5).trans h2]
      refine zok_cl (c_addOcc ht hw g1 rfl (by omega) hf10 (by omega)) (fun x m3 hx => zok_some (Or.inr (Or.inr ⟨rfl, by omega, hx.1, ?_⟩)))
      obtain ⟨x1, x2, x3, x4, x5⟩ := hx
      have f3 : rdF t n m2 m3 := rdF.fr ht (x3.le (by omega))
      have e99 : ∀ i, zI m3 99 i = zI m1 99 i := fun i => ((x3.1 99 (by omega) i).1).trans (g4 i)
      refine ⟨⟨⟨(f3.2.1 0).trans ((g2.2.1 0).trans k1), (e99 1).trans k2, (e99 2).trans k3, fun i hi => ((x3.1 2 (by omega) i).1).trans ((g5 i).trans (k4 i hi))⟩, (f3.2.1 4).trans ((g2.2.1 4).trans h1), (e99 5).trans h2, ⟨(e99 6).trans h3.1, (e99 7).trans h3.2⟩, x2, by rw [x4, g3]; omega, (hw.occ (by omega) hf10 c1').le (Nat.le_succ q), h8⟩, (hF1.tr g2).tr f3, ?_⟩
      show zI m3 (t + 9) (sN S) + 1 = zI m3 t 16
      rw [x4, x5]
    rw [hm1.2.2.1]
    have eE : sE (adO S (opn st) f) = if opn st = -1 then sE S else adE (sE S) f (sF S (opn st).toNat).toNat := rfl
    refine zok_if (fun c3 => ?_) (fun c3 => ?_)
    · refine fin m1 ?_ rdF.rf rfl (fun _ => rfl) (fun _ => rfl)
      rw [eE, if_pos c3]
      exact hm1.2.2.2.2.1
    · cases hst : st with
      | nil => exact absurd (by rw [hst]; rfl) c3
      | cons x r =>
        have ex : opn st = (x : Nat) := by rw [hst]; rfl
        have hcx := hw.2.1
        rw [hst] at hcx
        have hF := hw.1.2.2.2.1 x hcx.1
        have hxN : x < sN S := hcx.1
        obtain ⟨t1, t2⟩ := tbk_no (S := S) (f := f) (q := x) (r := r) (by rw [← hst]; exact c1')
        rw [← hst, ex, hm1.2.1, q3, qa, zx_nat, (hm1.2.2.2.2.1.2.2.2.1 x hcx.1).1]
        refine zok_gd ⟨by omega, by omega⟩ ?_
        have hgg : sF S x = ((sF S x).toNat : Nat) := by omega
        rw [hgg]
        refine zok_cm (c_addDep ht hf10 (by omega) (fun h hh => hm1.2.2.2.2.1.2.2.2.2.1 h hh) t1 t2) (fun m2 h2 => ?_)
        have e2 := fin m2 ?_ ⟨h2.1.mono (fun c hc => by omega), fun i => (h2.1 99 (by omega) i).2.2, (h2.1 99 (by omega) 1).1, fun i _ => ⟨(h2.1 _ (by omega) i).1, (h2.1 _ (by omega) i).1⟩⟩ (h2.1 t (by omega) 16).1 (fun i => (h2.1 99 (by omega) i).1) (fun i => (h2.1 2 (by omega) i).1)
        · rw [ex] at e2
          exact e2
        · refine hm1.2.2.2.2.1.stE ht h2.1 (fun g hg => ?_)
          rw [h2.2 g hg, eE, if_neg c3, ex]; rfl
end crd3
