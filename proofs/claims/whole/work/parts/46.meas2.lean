/-! THE CLASS'S VIEW: measure() -/
def vC2 (c : Nat) : Prop := c ≠ 200 ∧ c ≠ 202 ∧ c ≠ 203 ∧ c ≠ 204 ∧ c ≠ 205
def vFr2 (μ μ' : zM) : Prop := zSm vC2 μ μ' ∧ (∀ i, zR μ' 200 i = zR μ 200 i) ∧ (∀ i, i ≠ 8 → zL μ' 200 i = zL μ 200 i) ∧ ∀ i, i ≠ 3 → zI μ' 200 i = zI μ 200 i
def vMs (S : zSn) (ty : Nat → Bool) (ln : Nat → Nat) (μ : zM) : Prop := vShown S ty μ ∧ (∀ f, f < 10 → zL μ 205 f = vL S ty ln f) ∧ zL μ 200 8 = vTL S ty ln
/-- the pictures of a snippet read the snippet's own cells, and the rows of items -/
theorem pSel_congr {μ μ' : zM} {r : Nat} (h : ∀ i, zI μ' r i = zI μ r i) (h1 : ∀ i, zI μ' (r + 1) i = zI μ (r + 1) i) (p : Int) : ∀ (n a : Nat), pSel μ' r p a n = pSel μ r p a n := by
  intro n
  induction n with
  | zero => intro a; rfl
  | succ n ih =>
    intro a
    show (if zI μ' (r + 1) a = p then _ else _) = (if zI μ (r + 1) a = p then _ else _)
    rw [h, h1, ih]
theorem pSc_keep {μ μ' : zM} {t : Nat} {S : zSn} (h : ∀ c, t ≤ c → c ≤ t + 10 → ∀ i, zI μ' c i = zI μ c i) (hr : ∀ i, zI μ' (zit t) i = zI μ (zit t) i ∧ zI μ' (zit t + 1) i = zI μ (zit t + 1) i) (hS : pSc μ t S) : pSc μ' t S := by
  obtain ⟨a1, a2, a3, a4, a5, a6, a7, a8, a9⟩ := hS
  have e1 : ∀ p, cFirst μ' t p = cFirst μ t p := fun p => by unfold cFirst; rw [h t (by omega) (by omega), h (t + 9) (by omega) (by omega)]
  have e2 : ∀ p, cEnd μ' t p = cEnd μ t p := fun p => by unfold cEnd; rw [h t (by omega) (by omega), h (t + 10) (by omega) (by omega)]
  have e3 := fun p n a => pSel_congr (fun i => (hr i).1) (fun i => (hr i).2) p n a
  refine ⟨by rw [h t (by omega) (by omega)]; exact a1, fun i hi => by rw [h (t + 1) (by omega) (by omega)]; exact a2 i hi, by rw [h t (by omega) (by omega)]; exact a3, fun o ho => ?_, fun f hf => by rw [h (t + 7) (by omega) (by omega)]; exact a5 f hf, ?_, ?_, fun p hp => ?_, fun o ho => ?_⟩
  · rw [h (t + 2) (by omega) (by omega), h (t + 3) (by omega) (by omega), h (t + 4) (by omega) (by omega), h (t + 5) (by omega) (by omega), h (t + 6) (by omega) (by omega)]; exact a4 o ho
  · rw [h t (by omega) (by omega)]; exact a6
  · rw [h t (by omega) (by omega), h t (by omega) (by omega)]; exact a7
  · rw [h (t + 8) (by omega) (by omega), e1, e2, e3]; exact a8 p hp
  · rw [h (t + 9) (by omega) (by omega), e1, e3]; exact a9 o ho
theorem pSc_v {μ μ' : zM} {t : Nat} {S : zSn} (ht : okT t) {P : Nat → Prop} (h : zSm P μ μ') (hP : ∀ c, c < 193 → P c) (hS : pSc μ t S) : pSc μ' t S := by
  have q := ht.f
  refine pSc_keep (fun c h1 h2 i => (h c (hP c (by omega)) i).1) (fun i => ⟨(h _ (hP _ (by omega)) i).1, (h _ (hP _ (by omega)) i).1⟩) hS
section vMeasure
variable {μ0 m : zM} {t : Nat} {S : zSn} {ty : Nat → Bool} {ln : Nat → Nat} {Q : zM → Prop}
def vJ (μ0 : zM) (S : zSn) (ty : Nat → Bool) (ln : Nat → Nat) (c j : Nat) (m : zM) : Prop := vFr2 μ0 m ∧ vShown S ty m ∧ ∀ f, f < 10 → (vRk S f < c ∨ (vRk S f = c ∧ f < j)) → zL m 205 f = vL S ty ln f
theorem vFr2_S (ht : okT t) (hR : zR μ0 200 0 = t) (hS : pSc μ0 t S) (h : vFr2 μ0 m) : zR m 200 0 = t ∧ pSc m t S := ⟨(h.2.1 0).trans hR, pSc_v ht h.1 (fun c hc => by unfold vC2; omega) hS⟩
theorem v_m84 {c j : Nat} (hJ : vJ μ0 S ty ln c j m) (hj : j < 10) (hr : vRk S j = c) {k6 : Int → zM → Option zM} {k14 : Int → Int → zM → Option zM} (cont : ∀ m', vJ μ0 S ty ln c (j + 1) m' → zok (k14 (c : Int) ((j : Int) + 1) m') Q) : zok (f4_measure_84 k6 k14 (c : Int) (j : Int) (vL S ty ln j : Int) (j : Int) m) Q := by
  obtain ⟨l1, l2, l3, l4, l5, -⟩ := zl_200s
  unfold f4_measure_84
  refine zok_gd ⟨by omega, by rw [l5]; omega⟩ (zok_lt (zok_gl ⟨by omega, by omega⟩ (cont _ ?_)))
  obtain ⟨h1, h2, h3⟩ := hJ
  refine ⟨⟨h1.1.sL (fun h => h.2.2.2.2 rfl), h1.2.1, fun i hi => (zL_nk (by decide)).trans (h1.2.2.1 i hi), h1.2.2.2⟩, h2, fun f hf h => ?_⟩
  rw [zx_nat]
  by_cases e : f = j
  · subst e; exact zL_eq rfl rfl
  · rw [zL_ni e]
    exact h3 f hf (by omega)
theorem v_m14 (ht : okT t) (hR : zR μ0 200 0 = t) (hS : pSc μ0 t S) (hW : wS S) (hT : ∀ f, f < 10 → mbit (zI μ0 200 1) f = ty f) (hL : ∀ f, f < 10 → ty f = true → zI μ0 201 f = ln f) (hl : ∀ f, f < 10 → ln f ≤ 400) {c : Nat} (hc : c < 10) {k6 : Int → zM → Option zM} (cont : ∀ m', vJ μ0 S ty ln (c + 1) 0 m' → zok (k6 ((c : Int) + 1) m') Q) (hJ : vJ μ0 S ty ln c 0 m) : zok (zfx (f4_measure_14 k6) (fun _ _ _ => none) zFu (c : Int) 0 m) Q := by
  obtain ⟨q1, q2, q3, q4, q5, q6, q7, q8, q9, q10, q11, q12, q13, -⟩ := ht.f
  obtain ⟨l1, l2, l3, l4, l5, -⟩ := zl_200s
  refine zok_x3 (fun (x y : Int) m => x = c ∧ ∃ j : Nat, y = j ∧ j ≤ 10 ∧ vJ μ0 S ty ln c j m) (fun _ y _ => 10 - y.toNat) (fun kk x y m hx ih => ?_) zFu _ _ _ ⟨rfl, 0, rfl, by omega, hJ⟩ (by show 10 - 0 < 100000; omega)
  obtain ⟨rfl, j, rfl, hj, hJ⟩ := hx
  have hJ' := hJ
  obtain ⟨h1, h2, h3⟩ := hJ
  obtain ⟨hR1, hS1⟩ := vFr2_S ht hR hS h1
  unfold f4_measure_14
  rw [hR1, q3, q10]
  refine zok_if (fun h => zok_gl ⟨by omega, by omega⟩ (cont _ ⟨h1, h2, fun f hf h9 => h3 f hf (by omega)⟩)) (fun h => ?_)
  have hj2 : j < 10 := by omega
  have hE := hW.2.2.2.2.2.1 j hj2
  refine zok_gd ⟨by omega, by omega⟩ ?_
  rw [zx_nat, hS1.2.2.2.2.1 j hj2]
  refine zok_co (v_bc hE.1 hE.2.2.1) (fun r hr => ?_)
  have hrk : r = (vRk S j : Nat) := hr
  subst hrk
  have go : ∀ m', vJ μ0 S ty ln c (j + 1) m' → zok (kk (c : Int) ((j : Int) + 1) m') Q := fun m' h => ih _ _ _ ⟨rfl, j + 1, by omega, by omega, h⟩ (by show 10 - ((j : Int) + 1).toNat < 10 - (j : Int).toNat; omega)
  refine zok_if (fun h9 => ?_) (fun h9 => zok_gl ⟨by omega, by omega⟩ (go _ ⟨h1, h2, fun f hf q => h3 f hf (by
    rcases q with q | q
    · exact Or.inl q
    · by_cases e : f = j
      · subst e; omega
      · exact Or.inr (by omega))⟩))
  have hrc : vRk S j = c := by omega
  refine zok_gd ⟨by omega, by rw [l3]; omega⟩ (zok_lt ?_)
  rw [h2.2.1 j hj2]
  have hty : mbit (zI m 200 1) ((j : Int)).toNat = ty ((j : Int)).toNat := by rw [h1.2.2.2 1 (by decide)]; exact hT j hj2
  refine zok_co (v_isTyped (ty := ty) (j : Int) (by omega) (by omega) hty) (fun b hb => ?_)
  have hb' : b = ty j := hb
  subst hb'
  -- what the length is
  have hv := vL_eq hW ty ln hj2
  have tail : ∀ s0 : Int, (vSd S ty j = -1 → s0 = vL S ty ln j) → zok (f4_measure_61 k6 kk (c : Int) (j : Int) (vSd S ty j) s0 m) Q := by
    intro s0 hs0
    unfold f4_measure_61
    refine zok_if (fun e => ?_) (fun e => ?_)
    · rw [hs0 e]
      exact v_m84 hJ' hj2 hrc go
    · obtain ⟨o, p1, p2, p3, p4, p5, p6, p7⟩ := vSd_part e
      refine zok_co (v_part (v := vL S ty ln) ht hR1 hS1 hW p7 (fun o2 ho2 hp2 => ?_) (fun f hf => by have := vL_big hW ty ln hl hf; omega)) (fun r hr => ?_)
      · have g3 := hW.2.2.2.1 o2 ho2
        have g9 := hW.2.2.2.2.2.2.1 o2 o ho2 (hp2.trans p1)
        rw [p6] at g9
        have g10 := vRk_lt hW hj2 (show (sF S o2).toNat < 10 by omega) g9
        exact h3 _ (by omega) (Or.inl (by omega))
      · rw [hr]
        rw [if_neg e] at hv
        rw [← hv]
        exact v_m84 hJ' hj2 hrc go
  cases eT : ty j with
  | false =>
    refine zok_t rfl (tail 0 (fun e => ?_))
    rw [hv, if_pos e, eT]; rfl
  | true =>
    refine zok_f (by decide) (zok_gd ⟨by omega, by rw [l1]; omega⟩ (tail _ (fun e => ?_)))
    rw [(h1.1 201 (by unfold vC2; omega) _).1, hL j hj2 eT, hv, if_pos e, eT]; rfl
theorem v_measure (ht : okT t) (hR : zR μ0 200 0 = t) (hS : pSc μ0 t S) (hW : wS S) (hT : ∀ f, f < 10 → mbit (zI μ0 200 1) f = ty f) (hL : ∀ f, f < 10 → ty f = true → zI μ0 201 f = ln f) (hl : ∀ f, f < 10 → ln f ≤ 400) : zok (f4_measure μ0) (fun μ' => vMs S ty ln μ' ∧ vFr2 μ0 μ') := by
  unfold f4_measure
  refine zok_cm (v_show ht hR hS hW hT) (fun m1 h1 => ?_)
  have hF : vFr2 μ0 m1 := ⟨h1.2.1.mono (fun c hc => ⟨hc.1, hc.2.1, hc.2.2.1, hc.2.2.2.1⟩), fun i => (h1.2.2.1 i).1, fun i _ => (h1.2.2.1 i).2, h1.2.2.2⟩
  refine zok_x2 (fun (x : Int) m => ∃ c : Nat, x = c ∧ c ≤ 10 ∧ vJ μ0 S ty ln c 0 m) (fun x _ => 10 - x.toNat) (fun kk x m hx ih => ?_) zFu _ _ ⟨0, rfl, by omega, hF, h1.1, fun f hf h => absurd h (by omega)⟩ (by show 10 - 0 < 100000; omega)
  obtain ⟨c, rfl, hc, hJ⟩ := hx
  unfold f4_measure_6
  refine zok_if (fun h => ?_) (fun h => v_m14 ht hR hS hW hT hL hl (by omega) (fun m' h9 => ih _ _ ⟨c + 1, by omega, by omega, h9⟩ (by show 10 - ((c : Int) + 1).toNat < 10 - (c : Int).toNat; omega)) hJ)
  obtain ⟨g1, g2, g3⟩ := hJ
  obtain ⟨hR1, hS1⟩ := vFr2_S ht hR hS g1
  refine zok_co (v_part (v := vL S ty ln) ht hR1 hS1 hW (Or.inl rfl) (fun o ho _ => ?_) (fun f hf => by have := vL_big hW ty ln hl hf; omega)) (fun r hr => zok_lt (zok_some ?_))
  · have g := hW.2.2.2.1 o ho
    have := vRk_le hW (show (sF S o).toNat < 10 by omega)
    exact g3 _ (by omega) (Or.inl (by omega))
  · refine ⟨⟨g2, fun f hf => ?_, ?_⟩, g1.1.sL (fun h => h.1 rfl), g1.2.1, fun i hi => (zL_ni hi).trans (g1.2.2.1 i hi), g1.2.2.2⟩
    · have := vRk_le hW hf
      rw [zL_nk (by decide)]
      exact g3 f hf (Or.inl (by omega))
    · rw [zL_eq rfl rfl, hr]; rfl
end vMeasure
