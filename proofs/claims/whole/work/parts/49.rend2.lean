/-! THE CLASS'S VIEW: renderValues, renderText -/
section vRend2
variable {μ0 m : zM} {t : Nat} {S : zSn} {ty : Nat → Bool} {tx : Nat → List Int} {Q : zM → Prop}
def vRw (μ0 : zM) (S : zSn) (ty : Nat → Bool) (tx : Nat → List Int) (c j : Nat) (m : zM) : Prop := zSm (fun k => k ≠ 207) μ0 m ∧ ∀ f, f < 10 → (vSd S ty f = -1 ∨ vRk S f < c ∨ (vRk S f = c ∧ f < j)) → vRow (vV S ty tx) m f
/-- the lengths of all values are those of a session whose TEXT is not too long -/
theorem vV_400 (hW : wS S) (hl : ∀ f, f < 10 → (tx f).length ≤ 40) (hTX : vTL S ty (fun f => (tx f).length) ≤ 400) {f : Nat} (hf : f < 10) : (vV S ty tx f).length ≤ 400 := by
  rw [vV_len]
  rcases vL_le hW ty (fun f => (tx f).length) hf with h | ⟨h1, h2⟩
  · omega
  · have := hl f hf
    have e : (fun f => (tx f).length) f = (tx f).length := rfl
    rw [h2]
    split <;> omega
theorem v_r10 (ht : okT t) (hR : zR μ0 200 0 = t) (hS : pSc μ0 t S) (hW : wS S) (hM : vMs S ty (fun f => (tx f).length) μ0) (hl : ∀ f, f < 10 → (tx f).length ≤ 40) (hTX : vTL S ty (fun f => (tx f).length) ≤ 400) {c : Nat} (hc : c < 10) {k2 : Int → zM → Option zM} (cont : ∀ m', vRw μ0 S ty tx (c + 1) 0 m' → zok (k2 ((c : Int) + 1) m') Q) (hJ : vRw μ0 S ty tx c 0 m) : zok (zfx (f4_renderValues_10 k2) (fun _ _ _ => none) zFu (c : Int) 0 m) Q := by
  obtain ⟨q1, q2, q3, q4, q5, q6, q7, q8, q9, q10, q11, q12, q13, -⟩ := ht.f
  obtain ⟨l1, l2, l3, l4, l5, l6, l7, l8⟩ := zl_200s
  refine zok_x3 (fun (x y : Int) m => x = c ∧ ∃ j : Nat, y = j ∧ j ≤ 10 ∧ vRw μ0 S ty tx c j m) (fun _ y _ => 10 - y.toNat) (fun kk x y m hx ih => ?_) zFu _ _ _ ⟨rfl, 0, rfl, by omega, hJ⟩ (by show 10 - 0 < 100000; omega)
  obtain ⟨rfl, j, rfl, hj, hJ⟩ := hx
  obtain ⟨h1, h3⟩ := hJ
  have eI : ∀ k, k ≠ 207 → ∀ i, zI m k i = zI μ0 k i := fun k hk i => (h1 k hk i).1
  have hR1 : zR m 200 0 = t := ((h1 200 (by decide) 0).2.2).trans hR
  have hS1 : pSc m t S := pSc_v ht h1 (fun k hk => by show k ≠ 207; omega) hS
  unfold f4_renderValues_10
  simp only [hR1, q3, q10]
  refine zok_if (fun h => zok_gl ⟨by omega, by omega⟩ (cont _ ⟨h1, fun f hf h9 => h3 f hf (by omega)⟩)) (fun h => ?_)
  have hj2 : j < 10 := by omega
  have hE := hW.2.2.2.2.2.1 j hj2
  refine zok_gd ⟨by omega, by omega⟩ ?_
  simp only [zx_nat, hS1.2.2.2.2.1 j hj2]
  refine zok_co (v_bc hE.1 hE.2.2.1) (fun r hr => ?_)
  have hrk : r = (vRk S j : Nat) := hr
  subst hrk
  have go : ∀ m', vRw μ0 S ty tx c (j + 1) m' → zok (kk (c : Int) ((j : Int) + 1) m') Q := fun m' h => ih _ _ _ ⟨rfl, j + 1, by omega, by omega, h⟩ (by show 10 - ((j : Int) + 1).toNat < 10 - (j : Int).toNat; omega)
  have stay : (vSd S ty j = -1 ∨ vRk S j ≠ c) → vRw μ0 S ty tx c (j + 1) m := fun hs => ⟨h1, fun f hf q => h3 f hf (by
    rcases q with q | q | q
    · exact Or.inl q
    · exact Or.inr (Or.inl q)
    · by_cases e : f = j
      · subst e
        rcases hs with hs | hs
        · exact Or.inl hs
        · exact absurd q.1 hs
      · exact Or.inr (Or.inr (by omega)))⟩
  refine zok_if (fun h9 => ?_) (fun h9 => ?_)
  · unfold f4_renderValues_37
    refine zok_f (by decide) (zok_gd ⟨by omega, by rw [l3]; omega⟩ ?_)
    simp only [zx_nat, eI 203 (by decide), hM.1.2.1 j hj2]
    refine zok_if (fun e => zok_gl ⟨by omega, by omega⟩ (go _ (stay (Or.inl e)))) (fun e => zok_gd ⟨by omega, by rw [l3]; omega⟩ (zok_gl ⟨by omega, by omega⟩ ?_))
    obtain ⟨o, p1, p2, p3, p4, p5, p6, p7⟩ := vSd_part e
    have hv := vV_eq hW ty tx hj2
    rw [if_neg e] at hv
    have h400 := vV_400 hW hl hTX hj2
    rw [hv] at h400
    rw [show (j : Int) * 400 = ((400 * j : Nat) : Int) by omega]
    refine zok_cm (v_rpart (v := vV S ty tx) (c := 207) (st := 400 * j) (Or.inl ⟨rfl, by omega⟩) ht hR1 hS1 hW p7 (fun o2 ho2 hp2 => ?_) h400) (fun m1 hm1 => zok_gl ⟨by omega, by omega⟩ (go _ ?_))
    · have g3 := hW.2.2.2.1 o2 ho2
      have g9 := hW.2.2.2.2.2.2.1 o2 o ho2 (hp2.trans p1)
      rw [p6] at g9
      have hf2 : (sF S o2).toNat < 10 := by omega
      have g10 := vRk_lt hW hj2 hf2 g9
      refine ⟨h3 _ hf2 (Or.inr (Or.inl (by omega))), vV_400 hW hl hTX hf2, ?_, fun _ => ?_⟩
      · rw [(h1 205 (by decide) _).2.1, hM.2.1 _ hf2, vV_len]
      · have : (sF S o2).toNat ≠ j := fun q => by rw [q] at g10; omega
        omega
    · obtain ⟨w1, w2, w3, w4⟩ := hm1
      refine ⟨fun k hk i => ⟨((w1 k hk i).1).trans (h1 k hk i).1, ((w1 k hk i).2.1).trans (h1 k hk i).2.1, ((w1 k hk i).2.2).trans (h1 k hk i).2.2⟩, fun f hf q => ?_⟩
      by_cases ef : f = j
      · subst ef
        intro i hi
        rw [hv] at hi ⊢
        exact w4 i hi
      · have h5 : vRow (vV S ty tx) m f := h3 f hf (by
          rcases q with q | q | q
          · exact Or.inl q
          · exact Or.inr (Or.inl q)
          · exact Or.inr (Or.inr (by omega)))
        intro i hi
        have := vV_400 hW hl hTX hf
        rw [w2 _ (by omega)]
        exact h5 i hi
  · unfold f4_renderValues_37
    exact zok_t rfl (zok_gl ⟨by omega, by omega⟩ (go _ (stay (Or.inr (fun q => h9 (by omega))))))
theorem v_values (ht : okT t) (hR : zR μ0 200 0 = t) (hS : pSc μ0 t S) (hW : wS S) (hM : vMs S ty (fun f => (tx f).length) μ0) (hl : ∀ f, f < 10 → (tx f).length ≤ 40) (hTX : vTL S ty (fun f => (tx f).length) ≤ 400) (hrow : ∀ f, f < 10 → ty f = true → ∀ i, i < (tx f).length → zI μ0 207 (400 * f + i) = (tx f).getD i 0) : zok (f4_renderValues μ0) (fun m => zSm (fun k => k ≠ 207) μ0 m ∧ ∀ f, f < 10 → vRow (vV S ty tx) m f) := by
  unfold f4_renderValues
  refine zok_x2 (fun (x : Int) m => ∃ c : Nat, x = c ∧ c ≤ 10 ∧ vRw μ0 S ty tx c 0 m) (fun x _ => 10 - x.toNat) (fun kk x m hx ih => ?_) zFu _ _ ⟨0, rfl, by omega, zSm.rf, fun f hf h => ?_⟩ (by show 10 - 0 < 100000; omega)
  · obtain ⟨c, rfl, hc, hJ⟩ := hx
    unfold f4_renderValues_2
    refine zok_if (fun h => zok_some ⟨hJ.1, fun f hf => hJ.2 f hf (Or.inr (Or.inl (by have := vRk_le hW hf; omega)))⟩) (fun h => v_r10 ht hR hS hW hM hl hTX (by omega) (fun m' h9 => ih _ _ ⟨c + 1, by omega, by omega, h9⟩ (by show 10 - ((c : Int) + 1).toNat < 10 - (c : Int).toNat; omega)) hJ)
  · have e : vSd S ty f = -1 := by omega
    have hv := vV_eq hW ty tx hf
    rw [if_pos e] at hv
    intro i hi
    rw [hv] at hi ⊢
    cases eT : ty f with
    | true => rw [eT] at hi; exact hrow f hf eT i hi
    | false => rw [eT] at hi; exact absurd hi (Nat.not_lt_zero i)
theorem v_text (ht : okT t) (hR : zR μ0 200 0 = t) (hS : pSc μ0 t S) (hW : wS S) (hM : vMs S ty (fun f => (tx f).length) μ0) (hl : ∀ f, f < 10 → (tx f).length ≤ 40) (hTX : vTL S ty (fun f => (tx f).length) ≤ 400) (hrow : ∀ f, f < 10 → ty f = true → ∀ i, i < (tx f).length → zI μ0 207 (400 * f + i) = (tx f).getD i 0) : zok (f4_renderText μ0) (fun m => zSm (fun k => k ≠ 207 ∧ k ≠ 208) μ0 m ∧ ∀ i, i < (vTx S ty tx).length → zI m 208 i = (vTx S ty tx).getD i 0) := by
  unfold f4_renderText
  refine zok_cm (v_values ht hR hS hW hM hl hTX hrow) (fun m1 h1 => ?_)
  have hR1 : zR m1 200 0 = t := ((h1.1 200 (by decide) 0).2.2).trans hR
  have hS1 : pSc m1 t S := pSc_v ht h1.1 (fun k hk => by show k ≠ 207; omega) hS
  have e1 := vTx_len S ty tx
  refine zok_cm (v_rpart (v := vV S ty tx) (c := 208) (st := 0) (Or.inr ⟨rfl, rfl⟩) ht hR1 hS1 hW (Or.inl rfl) (fun o ho _ => ?_) (by show (vTx S ty tx).length ≤ 400; omega)) (fun m2 h2 => zok_some ?_)
  · have g := hW.2.2.2.1 o ho
    have hf : (sF S o).toNat < 10 := by omega
    exact ⟨h1.2 _ hf, vV_400 hW hl hTX hf, by rw [(h1.1 205 (by decide) _).2.1, hM.2.1 _ hf, vV_len], fun q => absurd q (by decide)⟩
  · obtain ⟨w1, w2, w3, w4⟩ := h2
    refine ⟨fun k hk i => ⟨((w1 k hk.2 i).1).trans (h1.1 k hk.1 i).1, ((w1 k hk.2 i).2.1).trans (h1.1 k hk.1 i).2.1, ((w1 k hk.2 i).2.2).trans (h1.1 k hk.1 i).2.2⟩, fun i hi => ?_⟩
    have := w4 i hi
    rw [Nat.zero_add] at this
    exact this
end vRend2
