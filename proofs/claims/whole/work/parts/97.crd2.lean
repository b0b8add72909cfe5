/-! THE CLASS'S READER: a field and what stands behind it -/
section crd2
variable {b : List Int} {t n p q d o : Nat} {μ m : zM} {S : zSn} {st : List Nat} {f : Nat}
theorem G_top (hW : wS S) (hc : chain S st) (ho : o < sN S) (hP : sP S o = opn st) : sG S o = st.length := by
  rcases hW.2.2.2.2.1 o ho with ⟨a, b⟩ | ⟨q, a, b, d, g⟩
  · cases st with
    | nil => rw [b]; rfl
    | cons x r => have e : opn (x :: r) = (x : Nat) := rfl; omega
  · cases st with
    | nil => have e : opn [] = -1 := rfl; omega
    | cons x r =>
      have e : opn (x :: r) = (x : Nat) := rfl
      have : q = x := by omega
      subst this
      rw [g, chain_G hW r q hc, List.length_cons]; omega
theorem pC.stE (ht : okT t) (h : pC μ t S st) {E : Nat → Int} (hs : zSm (fun c => c ≠ t + 7) μ m) (hE : ∀ f, f < 10 → zI m (t + 7) f = E f) : pC m t (stE S E) st := by
  have q17 := okT_4 t ht.2 ht.1
  obtain ⟨a1, a2, a3, a4, a5, a6, a7, a8, a9, a10⟩ := h
  have e : ∀ c, c ≠ t + 7 → ∀ i, zI m c i = zI μ c i := fun c hc i => (hs c hc i).1
  have e1 : ∀ p, cFirst m t p = cFirst μ t p := fun p => by unfold cFirst; rw [e t (by omega), e (t + 9) (by omega)]
  have e2 : ∀ p, cEndO m t st p = cEndO μ t st p := fun p => by unfold cEndO; rw [e t (by omega), e (t + 10) (by omega)]
  have e3 : ∀ (p : Int) (n a : Nat), pSel m (zit t) p a n = pSel μ (zit t) p a n := fun p n a => pSel_lo p n a (fun i _ _ => ⟨e _ (by omega) i, e _ (by omega) i⟩)
  refine ⟨(e t (by omega) 1).trans a1, fun i hi => (e (t + 1) (by omega) i).trans (a2 i hi), (e t (by omega) 2).trans a3, fun x hx => ?_, hE, by rw [e t (by omega)]; exact a6, by rw [e t (by omega), e t (by omega)]; exact a7, fun q hq => (e (t + 8) (by omega) q).trans (a8 q hq), fun p hp => ?_, fun x hx => ?_⟩
  · obtain ⟨b1, b2, b3, b4, b5⟩ := a4 x hx
    exact ⟨(e _ (by omega) x).trans b1, (e _ (by omega) x).trans b2, (e _ (by omega) x).trans b3, (e _ (by omega) x).trans b4, (e _ (by omega) x).trans b5⟩
  · rw [e1, e2, e3, e t (by omega)]; exact a9 p hp
  · rw [e1, e3, e t (by omega), e (t + 9) (by omega)]; exact a10 x hx
theorem rdB.chg (ht : okT t) (h : rdB b t n μ p S st) (hd : sD S o = 0) {y : Int} (h0 : 0 ≤ y) (h5 : y ≤ 5) : rdB b t n (zsI μ (t + 3) o y) p (stC S o y) st ∧ rdF t n μ (zsI μ (t + 3) o y) := by
  have q := okT_5 t ht.2 ht.1
  have q1 := ht.f.1
  obtain ⟨⟨k1, k2, k3, k4⟩, h1, h2, h3, h4, h6, h7, h8⟩ := h
  have e : ∀ i, zI (zsI μ (t + 3) o y) 99 i = zI μ 99 i := fun i => zI_nk (by omega)
  have e16 : zI (zsI μ (t + 3) o y) t 16 = zI μ t 16 := zI_nk (by omega)
  exact ⟨⟨⟨k1, (e 1).trans k2, (e 2).trans k3, fun i hi => (zI_nk (by omega)).trans (k4 i hi)⟩, h1, (e 5).trans h2, ⟨(e 6).trans h3.1, (e 7).trans h3.2⟩, h4.chg ht, by rw [e16]; exact h6, h7.chg hd h0 h5, h8⟩, rdF.sT ht (by omega) (by omega) o y⟩
theorem rdB.dft (ht : okT t) (h : rdB b t n μ p S st) (ho : o + 1 = sN S) (hd : sD S o = 0) (hcc : sC S o = 0) (hP : sP S o = opn st) (hl3 : st.length ≠ 4) (hbb : sB S (o : Nat) = []) (h9 : zI μ (t + 9) o + 1 = zI μ t 16) : rdB b t n (zsI (zsI μ (t + 4) o 1) 99 5 (o : Nat)) p (stD S o) (o :: st) ∧ rdF t n μ (zsI (zsI μ (t + 4) o 1) 99 5 (o : Nat)) := by
  have q := okT_5 t ht.2 ht.1
  have q1 := ht.f.1
  obtain ⟨⟨k1, k2, k3, k4⟩, h1, h2, h3, h4, h6, h7, h8⟩ := h
  have e : ∀ i, i ≠ 5 → zI (zsI (zsI μ (t + 4) o 1) 99 5 (o : Nat)) 99 i = zI μ 99 i := fun i hi => by rw [zI_ni hi, zI_nk (by omega)]
  have e16 : zI (zsI (zsI μ (t + 4) o 1) 99 5 (o : Nat)) t 16 = zI μ t 16 := by rw [zI_nk (by omega), zI_nk (by omega)]
  exact ⟨⟨⟨k1, (e 1 (by decide)).trans k2, (e 2 (by decide)).trans k3, fun i hi => by rw [zI_nk (by decide), zI_nk (by omega)]; exact k4 i hi⟩, h1, zI_eq rfl rfl, ⟨(e 6 (by decide)).trans h3.1, (e 7 (by decide)).trans h3.2⟩, (h4.dft ht (by omega) hd hbb h9).s9 ht, by rw [e16]; exact h6, h7.dft ho hd hcc hP hl3 hbb, h8⟩, (rdF.sT ht (by omega) (by omega) o 1).tr (rdF.s9 ht (by decide) _)⟩
theorem c_beh (ht : okT t) (hb : byB b) (h : rdB b t n μ q S st) (ho : o + 1 = sN S) (hd : sD S o = 0) (hcc : sC S o = 0) (hP : sP S o = opn st) (hbb : sB S (o : Nat) = []) (h9 : zI μ (t + 9) o + 1 = zI μ t 16) : zok (f1_readBehindField (o : Nat) (d : Nat) μ) (bAns b t n μ (bBeh b d q S o st)) := by
  have h7 := hb.1
  have q5 := okT_5 t ht.2 ht.1
  obtain ⟨q1, q2, q3, q4, qa, qb, qc, qd, qe, -⟩ := ht.f
  have h60 := h.2.2.2.2.2.2.1.1.1
  have k := h.1
  have kl := h.2.2.2.2.2.2.2
  unfold f1_readBehindField
  refine zok_co (c_isAt hb k (by decide)) (fun r1 e1 => ?_)
  subst e1
  by_cases c1 : bt b q = 125
  · have es : bBeh b d q S o st = .inr (q + 1, S, st) := by unfold bBeh; rw [if_pos c1]
    have hq := bt_r hb q
    rw [decide_eq_true c1, es, k.2.2.1]
    exact zok_f (by decide) (zok_gl ⟨by omega, by omega⟩ (zok_lt (zok_some ⟨h.go ht (Nat.le_succ q) (by omega) (by omega), rdF.s9 ht (by decide) _⟩)))
  · rw [decide_eq_false c1]
    refine zok_t rfl (zok_co (c_isAt hb k (by decide)) (fun r2 e2 => ?_))
    subst e2
    by_cases c2 : bt b q = 47
    · have hq := bt_r hb q
      have es : bBeh b d q S o st = (if chgOf (bt b (q + 1)) = 0 then .inl (1, ((q + 1 : Nat) : Int)) else if bt b (q + 2) = 125 then .inr (q + 3, stC S o (chgOf (bt b (q + 1))), st) else .inl (1, ((q + 2 : Nat) : Int))) := by unfold bBeh; rw [if_neg c1, if_pos c2]
      rw [decide_eq_true c2, es, k.2.2.1]
      refine zok_f (by decide) (zok_gl ⟨by omega, by omega⟩ (zok_lt ?_))
      have hm := h.go (p' := q + 1) (v := (q : Int) + 1) ht (Nat.le_succ q) (by omega) (by omega)
      have hF : rdF t n μ (zsI μ 99 2 ((q : Int) + 1)) := rdF.s9 ht (by decide) _
      generalize zsI μ 99 2 ((q : Int) + 1) = m1 at *
      have h27 : zok (f1_readChange_27 (o : Nat) (chgOf (bt b (q + 1))) m1) (bAns b t n μ (if chgOf (bt b (q + 1)) = 0 then .inl (1, ((q + 1 : Nat) : Int)) else if bt b (q + 2) = 125 then .inr (q + 3, stC S o (chgOf (bt b (q + 1))), st) else .inl (1, ((q + 2 : Nat) : Int)))) := by
        unfold f1_readChange_27
        have hr := chgOf_r (bt b (q + 1))
        have hq1 := bt_r hb (q + 1)
        rw [hm.1.2.2.1]
        refine zok_if (fun c => ?_) (fun c => ?_)
        · rw [if_pos c]
          exact zok_cm (c_fail ht hm hb (by decide)) (fun m2 h2 => zok_some (h2.fr hF))
        · rw [if_neg c]
          have hin : q + 1 < b.length := by
            rcases hq1 with ⟨a, -⟩ | ⟨-, -, a⟩
            · exact absurd (by rw [a]; rfl) c
            · exact a
          refine zok_gl ⟨by omega, by omega⟩ (zok_lt ?_)
          have hm2 := hm.go (p' := q + 2) (v := ((q + 1 : Nat) : Int) + 1) ht (by omega) (by omega) (by omega)
          have hF2 : rdF t n μ (zsI m1 99 2 (((q + 1 : Nat) : Int) + 1)) := hF.tr (rdF.s9 ht (by decide) _)
          generalize zsI m1 99 2 (((q + 1 : Nat) : Int) + 1) = m2 at *
          refine zok_co (c_isAt hb hm2.1 (by decide)) (fun r e => ?_)
          subst e
          rw [hm2.1.2.2.1]
          by_cases c3 : bt b (q + 2) = 125
          · have hq2 := bt_r hb (q + 2)
            rw [decide_eq_true c3, if_pos c3]
            refine zok_f (by decide) (zok_gl ⟨by omega, by omega⟩ (zok_lt ?_))
            have hm3 := hm2.go (p' := q + 3) (v := ((q + 2 : Nat) : Int) + 1) ht (by omega) (by omega) (by omega)
            have hF3 : rdF t n μ (zsI m2 99 2 (((q + 2 : Nat) : Int) + 1)) := hF2.tr (rdF.s9 ht (by decide) _)
            generalize zsI m2 99 2 (((q + 2 : Nat) : Int) + 1) = m3 at *
            rw [hm3.2.1, q3, qb]
            refine zok_gd ⟨by omega, by omega⟩ (zok_lt (zok_some ?_))
            obtain ⟨g1, g2⟩ := hm3.chg ht hd hr.1 hr.2
            exact ⟨g1, hF3.tr g2⟩
          · rw [decide_eq_false c3, if_neg c3]
            exact zok_t rfl (zok_cm (c_fail ht hm2 hb (by decide)) (fun m2 h2 => zok_some (h2.fr hF2)))
      refine zok_cm (P := bAns b t n μ (if chgOf (bt b (q + 1)) = 0 then .inl (1, ((q + 1 : Nat) : Int)) else if bt b (q + 2) = 125 then .inr (q + 3, stC S o (chgOf (bt b (q + 1))), st) else .inl (1, ((q + 2 : Nat) : Int)))) ?_ (fun m hm => zok_some hm)
      unfold f1_readChange
      rw [hm.1.2.1, hm.1.2.2.1, hm.1.1]
      refine zok_if (fun c => ?_) (fun c => zok_gd ⟨by omega, by rw [zln_c.1]; omega⟩ (zok_co (c_changeOf _) (fun r e => ?_)))
      · rw [bt_out (show b.length ≤ q + 1 by omega), show chgOf (-1) = 0 from rfl] at h27 ⊢
        exact h27
      · rw [show zx ((q + 1 : Nat) : Int) = q + 1 from rfl, hm.1.2.2.2 (q + 1) (by omega), ← bt_in (show q + 1 < b.length by omega)] at e
        subst e
        exact h27
    · rw [decide_eq_false c2]
      refine zok_t rfl (zok_co (c_isAt hb k (by decide)) (fun r3 e3 => ?_))
      subst e3
      by_cases c3 : bt b q = 58
      · have hq := bt_r hb q
        have hG := G_top h.2.2.2.2.2.2.1.1 h.2.2.2.2.2.2.1.2.1 (show o < sN S by omega) hP
        have hl4 := h.2.2.2.2.2.2.1.2.2.1
        have es : bBeh b d q S o st = (if st.length = 4 then .inl (2, (d : Int)) else .inr (q + 1, stD S o, o :: st)) := by unfold bBeh; rw [if_neg c1, if_neg c2, if_pos c3]
        rw [decide_eq_true c3, es]
        refine zok_f (by decide) (zok_cm (P := bAns b t n μ (if st.length = 4 then .inl (2, (d : Int)) else .inr (q + 1, stD S o, o :: st))) ?_ (fun m hm => zok_some hm))
        unfold f1_openDefault
        rw [h.2.1, q3, qe, zx_nat, (h.2.2.2.2.1.2.2.2.1 o (by omega)).2.2.2.2, hG, k.2.2.1]
        refine zok_gd ⟨by omega, by omega⟩ (zok_if (fun c => ?_) (fun c => ?_))
        · rw [if_neg (by omega)]
          refine zok_gl ⟨by omega, by omega⟩ (zok_lt ?_)
          have hm := h.go (p' := q + 1) (v := (q : Int) + 1) ht (Nat.le_succ q) (by omega) (by omega)
          have hF : rdF t n μ (zsI μ 99 2 ((q : Int) + 1)) := rdF.s9 ht (by decide) _
          have h9' : zI (zsI μ 99 2 ((q : Int) + 1)) (t + 9) o + 1 = zI (zsI μ 99 2 ((q : Int) + 1)) t 16 := by rw [zI_nk (by omega), zI_nk (by omega)]; exact h9
          generalize zsI μ 99 2 ((q : Int) + 1) = m1 at *
          rw [hm.2.1, q3, qc]
          refine zok_gd ⟨⟨by omega, by omega⟩, Or.inr rfl⟩ (zok_lt (zok_lt (zok_some ?_)))
          obtain ⟨g1, g2⟩ := hm.dft ht ho hd hcc hP (by omega) hbb h9'
          exact ⟨g1, hF.tr g2⟩
        · rw [if_pos (by omega)]
          exact zok_cm (c_fail ht h hb (by decide)) (fun m2 h2 => zok_some h2)
      · have es : bBeh b d q S o st = .inl (1, (q : Int)) := by unfold bBeh; rw [if_neg c1, if_neg c2, if_neg c3]
        rw [decide_eq_false c3, es, k.2.2.1]
        exact zok_t rfl (zok_cm (c_fail ht h hb (by decide)) (fun m2 h2 => zok_some h2))
end crd2
