/-! THE CLASS'S QUESTIONS -/
def vOnly (μ m : zM) : Prop := zSm (fun c => c < 200 ∨ 208 < c) μ m
theorem rC.only {A : zA} {μ m : zM} (hn : aN A ≤ 8) (h : vOnly μ m) (hr : rC A μ) : rC A m := hr.keep hn (h.mono (fun c hc => by unfold cV at hc; omega))
def cOk {γ : Type} (A : zA) (μ : zM) (v : γ) : γ × zM → Prop := fun r => rC A r.2 ∧ zSm (fun c => 292 ≤ c) μ r.2 ∧ r.1 = v
theorem vOnly.hi {μ m : zM} (h : vOnly μ m) : zSm (fun c => 292 ≤ c) μ m := h.mono (fun c hc => by omega)
theorem zcx_r {σ β γ : Type} {x : β} {μ : σ} {f : β → σ → Option ((String ⊕ γ) × σ)} : zcx (some (.inr x, μ)) f = f x μ := rfl
theorem zcx_l {σ β γ : Type} {E : String} {μ : σ} {f : β → σ → Option ((String ⊕ γ) × σ)} : zcx (some (.inl E, μ)) f = some (.inl E, μ) := rfl
theorem zcm_s {σ γ : Type} {μ : σ} {f : σ → Option γ} : zcm (some μ) f = f μ := rfl
theorem zcl_s {σ β γ : Type} {x : β} {μ : σ} {f : β → σ → Option γ} : zcl2 (some (x, μ)) f = f x μ := rfl
theorem zln_lib {t : Nat} (h : t = 7 ∨ t = 101) : zln (t + 1) = 8 := by rcases h with rfl | rfl <;> decide +kernel
theorem zln_c : zln 2 = 700 ∧ zln 3 = 10 ∧ zln 4 = 8 ∧ zln 5 = 2 ∧ zln 6 = 2 ∧ zln 194 = 4 ∧ zln 195 = 4 ∧ zln 196 = 4 ∧ zln 199 = 600 := by decide +kernel
/-- the view looks at level l -/
def cLk (A : zA) (l : Nat) (m : zM) : Prop := ∃ t, okT t ∧ zR m 200 0 = t ∧ pSc m t (hS (aL A) (aS A) l) ∧ vMs (hS (aL A) (aS A) l) (hT (aS A) l) (hN (aS A) l) m ∧ (∀ f, f < 10 → mbit (zI m 200 1) f = hT (aS A) l f) ∧ zI m 200 1 = tY (aS A) l ∧ (∀ f, f < 10 → ∀ i, i < (tX (aS A) l f).length → zI m 207 (400 * f + i) = (tX (aS A) l f).getD i 0) ∧ ∀ f, f < 10 → zI m 201 f = (tX (aS A) l f).length
/-- what the laying of a session wants -/
def wB (A : zA) : Prop := (aN A ≤ 8 ∧ ∀ k, k < aN A → wS (aL A k)) ∧ wSt (aS A) ∧ ∀ l, l < tD (aS A) → 0 ≤ tS (aS A) l ∧ tS (aS A) l < aN A
section cAsk
variable {A : zA} {c : Int} {μ : zM}
theorem wA.B (hA : wA c A) : wB A := ⟨hA.1, hA.2.1.1, fun l hl => ⟨(hA.2.1.2 l hl).1, (hA.2.1.2 l hl).2.1⟩⟩
theorem wB.S (hB : wB A) {l : Nat} (hl : l < tD (aS A)) : wS (hS (aL A) (aS A) l) := by
  have h := hB.2.2 l hl
  exact hB.1.2 _ (by omega)
theorem wA.S (hA : wA c A) {l : Nat} (hl : l < tD (aS A)) : wS (hS (aL A) (aS A) l) := hA.B.S hl
theorem c_take (hB : wB A) (hR : rC A μ) {l : Nat} (hl : l < tD (aS A)) : zok (f5_takeSession (l : Int) μ) (fun m => vOnly μ m ∧ ∃ t, okT t ∧ zR m 200 0 = t ∧ pSc m t (hS (aL A) (aS A) l) ∧ zI m 200 1 = tY (aS A) l ∧ (∀ f, f < 10 → zI m 201 f = (tX (aS A) l f).length) ∧ ∀ f, f < 10 → ∀ i, i < (tX (aS A) l f).length → zI m 207 (400 * f + i) = (tX (aS A) l f).getD i 0) := by
  have hw := hB.2.2 l hl
  have hd := hB.2.1.2.1
  have hn := hB.1.1
  obtain ⟨⟨t, t1, t2, t3, t4, t5⟩, h2, -⟩ := hR
  obtain ⟨l2, l3, l4, l5, l6, l194, -⟩ := zln_c
  unfold f5_takeSession
  rw [zx_nat, (h2.2.2.2.1 l hl).1, t2, zln_lib t1]
  refine zok_gd ⟨by omega, by omega⟩ (zok_gd ⟨by omega, by omega⟩ (zok_cm (v_take okC_all.1 h2 hB.2.1 hl) (fun m hm => zok_some ?_)))
  obtain ⟨a1, a2, a3, a4, a5⟩ := hm
  have ho : okT (t + 4 + 11 * (tS (aS A) l).toNat) := okT_k t1 (by omega)
  exact ⟨a1.mono (fun c hc => by omega), _, ho, a2, pSc_v ho a1 (fun c hc => by omega) (t5 _ (by omega)), a3, a4, a5⟩
theorem hN_40 (hB : wB A) {l : Nat} (hl : l < tD (aS A)) : ∀ f, f < 10 → hN (aS A) l f ≤ 400 := fun f hf => by
  have := ((hB.2.1.2.2.2 l hl).2.2.2.2 f hf).1
  show (tX (aS A) l f).length ≤ 400
  omega
/-- takeSession, measure -/
theorem c_meas (hB : wB A) (hR : rC A μ) {l : Nat} (hl : l < tD (aS A)) : ∃ m1 m2, f5_takeSession (l : Int) μ = some m1 ∧ f4_measure m1 = some m2 ∧ vOnly μ m2 ∧ cLk A l m2 := by
  obtain ⟨m1, e1, h1, t, t1, t2, t3, t4, t5, t6⟩ := c_take hB hR hl
  obtain ⟨m2, e2, h2, h3⟩ := v_measure (ty := hT (aS A) l) (ln := hN (aS A) l) t1 t2 t3 (hB.S hl) (fun f _ => by rw [t4]; rfl) (fun f hf _ => t5 f hf) (hN_40 hB hl)
  have h200 : zI m2 200 1 = zI m1 200 1 := h3.2.2.2 1 (by decide)
  refine ⟨m1, m2, e1, e2, h1.tr (h3.1.mono (fun c hc => by unfold vC2; omega)), t, t1, (h3.2.1 0).trans t2, pSc_v t1 h3.1 (fun c hc => by unfold vC2; omega) t3, h2, fun f _ => by rw [h200, t4]; rfl, h200.trans t4, fun f hf i hi => ((h3.1 207 (by unfold vC2; omega) _).1).trans (t6 f hf i hi), fun f hf => ((h3.1 201 (by unfold vC2; omega) _).1).trans (t5 f hf)⟩
theorem c_look (hB : wB A) (hR : rC A μ) {l : Nat} (hl : l < tD (aS A)) : zok (f5_lookAt (l : Int) μ) (fun m => vOnly μ m ∧ cLk A l m ∧ vOl (vOrd (hS (aL A) (aS A) l) (hT (aS A) l) (tO (aS A))) m) := by
  obtain ⟨m1, m2, e1, e2, h1, t, t1, t2, t3, t4, t5, t6, t7, t8⟩ := c_meas hB hR hl
  unfold f5_lookAt
  rw [e1]
  show zok (zcm (f4_measure m1) _) _
  rw [e2]
  show zok (zcm (f4_arrangeOrder (zI m2 193 0) m2) _) _
  have e0 : zI m2 193 0 = tO (aS A) := ((h1 193 (by omega) 0).1).trans hR.2.1.1
  rw [e0]
  refine zok_cm (v_order t1 t2 t3 (hB.S hl) t4.1 hB.2.1.1) (fun m hm => zok_some ⟨?_, ⟨t, t1, ((hm.2.2.1 0).1).trans t2, ?_, ⟨vFrO_V hm.2 t4.1, fun f hf => ?_, ?_⟩, fun f hf => ?_, ?_, fun f hf i hi => ?_, fun f hf => ?_⟩, hm.1⟩)
  · exact h1.tr (hm.2.1.mono (fun c hc => by omega))
  · exact pSc_v t1 hm.2.1 (fun c hc => by omega) t3
  · rw [(hm.2.1 205 (by decide) f).2.1]; exact t4.2.1 f hf
  · rw [(hm.2.2.1 8).2]; exact t4.2.2
  · rw [hm.2.2.2 1 (by decide)]; exact t5 f hf
  · rw [hm.2.2.2 1 (by decide)]; exact t6
  · rw [(hm.2.1 207 (by decide) _).1]; exact t7 f hf i hi
  · rw [(hm.2.1 201 (by decide) _).1]; exact t8 f hf
theorem c_inner0 (hR : rC A μ) (h : qD A = 0) : f5_lookAtInnermost μ = some (.inl xIS, μ) := by
  unfold f5_lookAtInnermost f5_requireSession
  have e : zI μ 193 1 = 0 := by rw [hR.2.1.2.1]; show ((qD A : Nat) : Int) = 0; omega
  rw [if_pos e]; rfl
theorem c_inner (hA : wA c A) (hR : rC A μ) (h : qD A ≠ 0) : ∃ m, f5_lookAtInnermost μ = some (.inr (), m) ∧ vOnly μ m ∧ cLk A (qD A - 1) m ∧ vOl (qO A) m := by
  obtain ⟨m, e, h1, h2, h3⟩ := c_look hA.B hR (l := qD A - 1) (by show qD A - 1 < qD A; omega)
  have hd : tD (aS A) ≤ 4 := hA.2.1.1.2.1
  refine ⟨m, ?_, h1, h2, h3⟩
  have e1 : zI μ 193 1 = (qD A : Nat) := hR.2.1.2.1
  have e2 : f5_requireSession μ = some (.inr (((qD A - 1 : Nat)) : Int), μ) := by
    unfold f5_requireSession zgl
    rw [e1, if_neg (by omega), if_pos (show zr (((qD A : Nat) : Int) - 1) from ⟨by omega, by show ((tD (aS A) : Nat) : Int) - 1 < _; omega⟩)]
    rw [show ((qD A : Nat) : Int) - 1 = ((qD A - 1 : Nat) : Int) by omega]
  unfold f5_lookAtInnermost
  rw [e2, zcx_r, e]; rfl
theorem c_fld1 {f : Int} (h : 0 ≤ f ∧ f < 10) : f5_requireField f μ = some (.inr (), μ) := by
  unfold f5_requireField
  rw [if_neg (by omega), if_pos (by omega)]
theorem c_fld0 {f : Int} (h : ¬ (0 ≤ f ∧ f < 10)) : f5_requireField f μ = some (.inl xIO, μ) := by
  unfold f5_requireField f5_requireField_10
  by_cases e : f < 0
  · rw [if_pos e]; rfl
  · rw [if_neg e, if_neg (by omega)]; rfl
theorem c_sn1 (hA : wA c A) (hR : rC A μ) {k : Int} (h : 0 ≤ k ∧ k < aN A) : ∃ t, okT t ∧ f5_requireSnippet k μ = some (.inr t, μ) ∧ pSc μ t (aL A k.toNat) ∧ wS (aL A k.toNat) := by
  have hn := hA.1.1
  obtain ⟨⟨t, t1, t2, t3, t4, t5⟩, -⟩ := hR
  refine ⟨t + 4 + 11 * k.toNat, okT_k t1 (by omega), ?_, t5 _ (by omega), hA.1.2 _ (by omega)⟩
  unfold f5_requireSnippet zgd
  rw [if_neg (by omega), t2, t4, if_pos h.2, zln_lib t1]
  rw [if_pos (show zin k 8 from ⟨h.1, by omega⟩)]
theorem c_sn0 (hR : rC A μ) {k : Int} (h : ¬ (0 ≤ k ∧ k < aN A)) : f5_requireSnippet k μ = some (.inl xIO, μ) := by
  obtain ⟨⟨t, t1, t2, t3, t4, t5⟩, -⟩ := hR
  unfold f5_requireSnippet f5_requireSnippet_15
  by_cases e : k < 0
  · rw [if_pos e]; rfl
  · rw [if_neg e, t2, t4, if_neg (by omega)]; rfl
theorem cOk.same {γ : Type} {v : γ} (hR : rC A μ) : cOk A μ v (v, μ) := ⟨hR, zSm.rf, rfl⟩
theorem cOk.v {γ : Type} {m : zM} {v w : γ} (hA : wA c A) (hR : rC A μ) (h : vOnly μ m) (e : w = v) : cOk A μ v (w, m) := ⟨hR.only hA.1.1 h, h.hi, e⟩
theorem c_size (hA : wA c A) (hR : rC A μ) (w : Int) : zok (f5_size w μ) (cOk A μ (cRes [xIA] (spSize A w))) := by
  have hR' := hR
  obtain ⟨⟨t, t1, t2, t3, t4, t5⟩, h2, h3, h4, h5, ⟨n, n1, n2, n3, n4⟩, h7⟩ := hR
  have ho := hA.2.1.1.1
  unfold f5_size
  rw [t2, t4, h2.2.1, h2.2.2.1, h2.1, h3.1, n3]
  refine zok_if (fun e => zok_some ?_) (fun e => zok_if (fun e => zok_some ?_) (fun e => zok_if (fun e => zok_some ?_) (fun e => zok_if (fun e => ?_) (fun e => zok_if (fun e => zok_some ?_) (fun e => zok_if (fun e => zok_some ?_) (fun e => zok_some ?_))))))
  · unfold spSize; rw [if_pos e]; exact cOk.same hR'
  · unfold spSize; rw [if_neg (by omega), if_pos e]; exact cOk.same hR'
  · unfold spSize; rw [if_neg (by omega), if_neg (by omega), if_pos e]; exact cOk.same hR'
  · have es : spSize A w = .inr (tO (aS A)) := by unfold spSize; rw [if_neg (by omega), if_neg (by omega), if_neg (by omega), if_pos e]
    rw [es]
    refine zok_if (fun e2 => zok_some ?_) (fun e2 => zok_some ?_)
    · rw [e2]; exact cOk.same hR'
    · rw [ho.resolve_left e2]; exact cOk.same hR'
  · unfold spSize; rw [if_neg (by omega), if_neg (by omega), if_neg (by omega), if_neg (by omega), if_pos e]; exact cOk.same hR'
  · unfold spSize; rw [if_neg (by omega), if_neg (by omega), if_neg (by omega), if_neg (by omega), if_neg (by omega), if_pos e]; exact cOk.same hR'
  · unfold spSize; rw [if_neg (by omega), if_neg (by omega), if_neg (by omega), if_neg (by omega), if_neg (by omega), if_neg e]; exact cOk.same hR'
theorem s_deep {t : Nat} {S : zSn} (ht : okT t) (hS : pSc μ t S) (hW : wS S) : zok (f2_deepest t μ) (fun r => r = dpF S (sN S)) := by
  obtain ⟨q1, q2, q3, q4, q5, q6, q7, q8, q9, q10, q11, q12, q13, -⟩ := ht.f
  have hn := hW.1
  unfold f2_deepest
  refine zok_x2 (fun (x1 x2 : Int) => ∃ j : Nat, x2 = j ∧ j ≤ sN S ∧ x1 = dpF S j) (fun _ x2 => 60 - x2.toNat) (fun kk x1 x2 hx ih => ?_) zFu 0 0 ⟨0, rfl, by omega, rfl⟩ (by show 60 - 0 < 100000; omega)
  obtain ⟨j, rfl, h1, rfl⟩ := hx
  unfold f2_deepest_4
  rw [q3, q9, hS.2.2.1, zx_nat]
  refine zok_if (fun h => zok_some (by rw [show j = sN S by omega])) (fun h => zok_gd ⟨by omega, by omega⟩ (zok_lt (zok_gl ⟨by omega, by omega⟩ (ih _ _ ⟨j + 1, by omega, by omega, ?_⟩ (by show 60 - ((j : Int) + 1).toNat < 60 - (j : Int).toNat; omega)))))
  rw [(hS.2.2.2.1 j (by omega)).2.2.2.2]; rfl
theorem s_defs {t : Nat} {S : zSn} (ht : okT t) (hS : pSc μ t S) (hW : wS S) : zok (f2_countDefaults t μ) (fun r => r = (nDef S : Nat)) := by
  obtain ⟨q1, q2, q3, q4, q5, q6, q7, q8, q9, q10, q11, q12, q13, -⟩ := ht.f
  have hn := hW.1
  unfold f2_countDefaults
  refine zok_x2 (fun (x1 x2 : Int) => ∃ j : Nat, x2 = j ∧ j ≤ sN S ∧ x1 = (cnt (fun o => decide (sD S o = 1)) j : Nat)) (fun _ x2 => 60 - x2.toNat) (fun kk x1 x2 hx ih => ?_) zFu 0 0 ⟨0, rfl, by omega, rfl⟩ (by show 60 - 0 < 100000; omega)
  obtain ⟨j, rfl, h1, rfl⟩ := hx
  have hc := cnt_le (fun o => decide (sD S o = 1)) j
  have e := cnt_s (fun o => decide (sD S o = 1)) j
  unfold f2_countDefaults_4
  rw [q3, q7, hS.2.2.1, zx_nat]
  refine zok_if (fun h => zok_some (by rw [show j = sN S by omega]; rfl)) (fun h => zok_gd ⟨by omega, by omega⟩ ?_)
  have hx := (hS.2.2.2.1 j (by omega)).2.2.1
  have hd := (hW.2.2.2.1 j (by omega)).2.2.2.2.1
  rw [hx]
  refine zok_if (fun h0 => ?_) (fun h0 => ?_)
  · rw [if_neg (by simp [h0])] at e
    exact zok_gl ⟨by omega, by omega⟩ (ih _ _ ⟨j + 1, by omega, by omega, by rw [e]; rfl⟩ (by show 60 - ((j : Int) + 1).toNat < 60 - (j : Int).toNat; omega))
  · rw [if_pos (by simp [hd.resolve_left h0])] at e
    exact zok_gl ⟨by omega, by omega⟩ (zok_gl ⟨by omega, by omega⟩ (ih _ _ ⟨j + 1, by omega, by omega, by rw [e]; rfl⟩ (by show 60 - ((j : Int) + 1).toNat < 60 - (j : Int).toNat; omega)))
theorem s_countOf {t : Nat} {S : zSn} (ht : okT t) (hS : pSc μ t S) (hW : wS S) (f : Nat) : zok (f2_countOf t (f : Int) μ) (fun r => r = (cnt (fun o => decide (sF S o = (f : Nat))) (sN S) : Nat)) := by
  obtain ⟨q1, q2, q3, q4, q5, q6, q7, q8, q9, q10, q11, q12, q13, -⟩ := ht.f
  have hn := hW.1
  unfold f2_countOf
  refine zok_x2 (fun (x1 x2 : Int) => ∃ j : Nat, x2 = j ∧ j ≤ sN S ∧ x1 = (cnt (fun o => decide (sF S o = (f : Nat))) j : Nat)) (fun _ x2 => 60 - x2.toNat) (fun kk x1 x2 hx ih => ?_) zFu 0 0 ⟨0, rfl, by omega, rfl⟩ (by show 60 - 0 < 100000; omega)
  obtain ⟨j, rfl, h1, rfl⟩ := hx
  have hc := cnt_le (fun o => decide (sF S o = (f : Nat))) j
  have e := cnt_s (fun o => decide (sF S o = (f : Nat))) j
  unfold f2_countOf_4
  rw [q3, q5, hS.2.2.1, zx_nat]
  refine zok_if (fun h => zok_some (by rw [show j = sN S by omega])) (fun h => zok_gd ⟨by omega, by omega⟩ ?_)
  rw [(hS.2.2.2.1 j (by omega)).1]
  refine zok_if (fun h0 => ?_) (fun h0 => ?_)
  · rw [if_pos (by simp [h0])] at e
    exact zok_gl ⟨by omega, by omega⟩ (zok_gl ⟨by omega, by omega⟩ (ih _ _ ⟨j + 1, by omega, by omega, by rw [e]; rfl⟩ (by show 60 - ((j : Int) + 1).toNat < 60 - (j : Int).toNat; omega)))
  · rw [if_neg (by simpa using h0)] at e
    exact zok_gl ⟨by omega, by omega⟩ (ih _ _ ⟨j + 1, by omega, by omega, by rw [e]; rfl⟩ (by show 60 - ((j : Int) + 1).toNat < 60 - (j : Int).toNat; omega))
theorem fsI_c {t : Nat} {S : zSn} (hS : pSc μ t S) (hW : wS S) : zI μ t 3 = fsI S := by
  refine setI_eq hS.2.2.2.2.2.1.1 hS.2.2.2.2.2.1.2 (fun i hi => decide_eq_false (fun ⟨o, h1, h2⟩ => ?_))
  have := hW.2.2.2.1 o h1
  omega
theorem c_snippet (hA : wA c A) (hR : rC A μ) (k w : Int) : zok (f5_snippet k w μ) (cOk A μ (cRes [xIO, xIA] (spSnippet A k w))) := by
  unfold f5_snippet
  by_cases h : 0 ≤ k ∧ k < aN A
  · obtain ⟨t, t1, t2, t3, t4⟩ := c_sn1 hA hR h
    have hn := t4.1
    rw [t2, zcx_r, t3.1, t3.2.2.1, fsI_c t3 t4]
    have es : spSnippet A k w = if w = 0 then .inr (sNm (aL A k.toNat)).length else if w = 1 then .inr (sN (aL A k.toNat)) else if w = 2 then .inr (fsI (aL A k.toNat)) else if w = 3 then .inr (dpF (aL A k.toNat) (sN (aL A k.toNat))) else if w = 4 then .inr (nDef (aL A k.toNat)) else if w = 5 then .inr (sT (aL A k.toNat)) else .inl 2 := by unfold spSnippet; rw [if_neg (fun q => q h)]
    refine zok_if (fun e => zok_some ?_) (fun e => zok_if (fun e => zok_some ?_) (fun e => zok_if (fun e => zok_some ?_) (fun e => zok_if (fun e => ?_) (fun e => zok_if (fun e => ?_) (fun e => zok_if (fun e => ?_) (fun e => zok_some ?_))))))
    · rw [es, if_pos e]; exact cOk.same hR
    · rw [es, if_neg (by omega), if_pos e]; exact cOk.same hR
    · rw [es, if_neg (by omega), if_neg (by omega), if_pos e]; exact cOk.same hR
    · have es2 := es
      rw [if_neg (by omega), if_neg (by omega), if_neg (by omega), if_pos e] at es2
      rw [es2]
      exact zok_co (s_deep t1 t3 t4) (fun r hr => zok_some (by rw [hr]; exact cOk.same hR))
    · have es2 := es
      rw [if_neg (by omega), if_neg (by omega), if_neg (by omega), if_neg (by omega), if_pos e] at es2
      rw [es2]
      exact zok_co (s_defs t1 t3 t4) (fun r hr => zok_some (by rw [hr]; exact cOk.same hR))
    · have es2 := es
      rw [if_neg (by omega), if_neg (by omega), if_neg (by omega), if_neg (by omega), if_neg (by omega), if_pos e] at es2
      rw [es2]
      have hc := t3.2.2.2.2.2.2.1
      refine zok_co (P := fun r => r = sT (aL A k.toNat)) ?_ (fun r hr => zok_some (by rw [hr]; exact cOk.same hR))
      unfold f2_countLiterals
      rw [t3.2.2.1]
      exact zok_gl ⟨by omega, by omega⟩ (zok_gl ⟨by omega, by omega⟩ (zok_some hc.2.2.2))
    · rw [es, if_neg (by omega), if_neg (by omega), if_neg (by omega), if_neg (by omega), if_neg (by omega), if_neg e]; exact cOk.same hR
  · rw [c_sn0 hR h, zcx_l]; unfold spSnippet; rw [if_pos h]; exact zok_some (cOk.same hR)
theorem c_letter (hA : wA c A) (hR : rC A μ) (k i : Int) : zok (f5_letter k i μ) (cOk A μ (cRes [xIO] (spLetter A k i))) := by
  unfold f5_letter
  by_cases h : 0 ≤ k ∧ k < aN A
  · obtain ⟨t, t1, t2, t3, t4⟩ := c_sn1 hA hR h
    obtain ⟨q1, q2, q3, q4, -⟩ := t1.f
    have hn := t4.2.1
    rw [t2, zcx_r, t3.1, q3, q4]
    refine zok_if (fun e => zok_some ?_) (fun e => zok_if (fun e2 => zok_some ?_) (fun e2 => zok_gd ⟨by omega, by omega⟩ (zok_some ?_)))
    · unfold spLetter; rw [if_neg (fun q => q h), if_neg (by omega)]; exact cOk.same hR
    · unfold spLetter; rw [if_neg (fun q => q h), if_neg (by omega)]; exact cOk.same hR
    · unfold spLetter; rw [if_neg (fun q => q h), if_pos (by omega), show zx i = i.toNat from rfl, t3.2.1 _ (by omega)]; exact cOk.same hR
  · rw [c_sn0 hR h, zcx_l]; unfold spLetter; rw [if_pos h]; exact zok_some (cOk.same hR)
theorem c_depends (hA : wA c A) (hR : rC A μ) (k f : Int) : zok (f5_depends k f μ) (cOk A μ (cRes [xIO] (spDepends A k f))) := by
  unfold f5_depends
  by_cases h : 0 ≤ k ∧ k < aN A
  · obtain ⟨t, t1, t2, t3, t4⟩ := c_sn1 hA hR h
    obtain ⟨q1, q2, q3, q4, q5, q6, q7, q8, q9, q10, -⟩ := t1.f
    rw [t2, zcx_r]
    unfold spDepends
    rw [if_neg (fun q => q h)]
    by_cases hf : 0 ≤ f ∧ f < 10
    · rw [c_fld1 hf, zcx_r, if_neg (fun q => q hf), q3, q10]
      refine zok_gd ⟨by omega, by omega⟩ (zok_some ?_)
      rw [show zx f = f.toNat from rfl, t3.2.2.2.2.1 _ (by omega)]; exact cOk.same hR
    · rw [c_fld0 hf, zcx_l, if_pos hf]; exact zok_some (cOk.same hR)
  · rw [c_sn0 hR h, zcx_l]; unfold spDepends; rw [if_pos h]; exact zok_some (cOk.same hR)
theorem c_document (hA : wA c A) (hR : rC A μ) (i : Int) : zok (f5_document i μ) (cOk A μ (cRes [xIO] (spDocument A i))) := by
  have hd := hA.2.1.1.2.2.1
  have h2 := hR.2.1
  unfold f5_document f5_document_15
  rw [h2.2.2.1]
  refine zok_if (fun e => zok_some ?_) (fun e => zok_if (fun e2 => zok_gd ⟨by omega, by rw [zln_c.2.2.2.2.2.2.2.2]; omega⟩ (zok_some ?_)) (fun e2 => zok_some ?_))
  · unfold spDocument; rw [if_pos (by omega)]; exact cOk.same hR
  · unfold spDocument; rw [if_neg (by omega), show zx i = i.toNat from rfl, show zI μ 199 i.toNat = _ from h2.2.2.2.2.2 i.toNat (by omega)]; exact cOk.same hR
  · unfold spDocument; rw [if_pos (by omega)]; exact cOk.same hR
theorem c_account (hR : rC A μ) (w : Int) : zok (f5_account w μ) (cOk A μ (cRes [xIA] (spAccount A w))) := by
  unfold f5_account f5_account_10
  refine zok_if (fun e => zok_some ?_) (fun e => zok_if (fun e2 => zok_gd ⟨by omega, by rw [zln_c.2.1]; omega⟩ (zok_some ?_)) (fun e2 => zok_some ?_))
  · unfold spAccount; rw [if_pos (by omega)]; exact cOk.same hR
  · unfold spAccount; rw [if_neg (by omega), show zx w = w.toNat from rfl, hR.2.2.2.2.1 _ (by omega)]; exact cOk.same hR
  · unfold spAccount; rw [if_pos (by omega)]; exact cOk.same hR
theorem lvI_c {S : zSn} {ty : Nat → Bool} {m : zM} (hW : wS S) (hV : vShown S ty m) : zI m 200 3 = setI (vLv S ty) 10 := setI_eq hV.2.2.2.1 hV.2.2.2.2 (vLv_10 hW ty)
theorem c_session (hA : wA c A) (hR : rC A μ) (l w : Int) : zok (f5_session l w μ) (cOk A μ (cRes [xIO, xIA] (spSession A l w))) := by
  have hd : tD (aS A) ≤ 4 := hA.2.1.1.2.1
  have h2 := hR.2.1
  obtain ⟨l2, l3, l4, l5, l6, l194, l195, l196, -⟩ := zln_c
  unfold f5_session f5_session_15
  rw [h2.2.1]
  refine zok_if (fun e => zok_some ?_) (fun e => zok_if (fun e2 => ?_) (fun e2 => zok_some ?_))
  · unfold spSession; rw [if_pos (by omega)]; exact cOk.same hR
  · have hl : l.toNat < tD (aS A) := by omega
    have el : ((l.toNat : Nat) : Int) = l := by omega
    have hx := h2.2.2.2.1 _ hl
    have es : spSession A l w = if w = 0 then .inr (tS (aS A) l.toNat) else if w = 1 then .inr (tC (aS A) l.toNat) else if w = 2 then .inr (tY (aS A) l.toNat) else if w = 3 then .inr (hTL (aL A) (aS A) l.toNat) else if w = 4 then .inr (setI (vLv (hS (aL A) (aS A) l.toNat) (hT (aS A) l.toNat)) 10) else .inl 2 := by unfold spSession; rw [if_neg (by show ¬ ¬ (0 ≤ l ∧ l < ((tD (aS A) : Nat) : Int)); omega)]
    rw [show zx l = l.toNat from rfl, show zI μ 194 l.toNat = _ from hx.1, show zI μ 195 l.toNat = _ from hx.2.1, show zI μ 196 l.toNat = _ from hx.2.2]
    obtain ⟨m1, m2, g1, g2, g3, t, t1, t2, t3, t4, t5⟩ := c_meas hA.B hR hl
    rw [el] at g1
    refine zok_if (fun e => zok_gd ⟨by omega, by omega⟩ (zok_some ?_)) (fun e => zok_if (fun e => zok_gd ⟨by omega, by omega⟩ (zok_some ?_)) (fun e => zok_if (fun e => zok_gd ⟨by omega, by omega⟩ (zok_some ?_)) (fun e => zok_if (fun e => ?_) (fun e => zok_if (fun e => ?_) (fun e => zok_some ?_)))))
    · rw [es, if_pos e]; exact cOk.same hR
    · rw [es, if_neg (by omega), if_pos e]; exact cOk.same hR
    · rw [es, if_neg (by omega), if_neg (by omega), if_pos e]; exact cOk.same hR
    · have es2 := es
      rw [if_neg (by omega), if_neg (by omega), if_neg (by omega), if_pos e] at es2
      rw [es2]
      have hT := (hA.2.1.2 _ hl).2.2.2
      unfold f5_measuredText
      rw [g1, zcm_s, g2, zcm_s, zcl_s]
      have e9 : zL m2 200 8 = ((hTL (aL A) (aS A) l.toNat : Nat) : Int) := t4.2.2
      rw [e9]
      exact zok_gl ⟨by omega, by omega⟩ (zok_some (cOk.v hA hR g3 rfl))
    · have es2 := es
      rw [if_neg (by omega), if_neg (by omega), if_neg (by omega), if_neg (by omega), if_pos e] at es2
      rw [es2]
      unfold f5_liveFields
      rw [g1, zcm_s, g2, zcm_s, zcl_s]
      refine zok_some (cOk.v hA hR g3 ?_)
      rw [lvI_c (hA.S hl) t4.1]; rfl
    · rw [es, if_neg (by omega), if_neg (by omega), if_neg (by omega), if_neg (by omega), if_neg e]; exact cOk.same hR
  · unfold spSession; rw [if_pos (by show ¬ (0 ≤ l ∧ l < ((tD (aS A) : Nat) : Int)); omega)]; exact cOk.same hR
end cAsk
