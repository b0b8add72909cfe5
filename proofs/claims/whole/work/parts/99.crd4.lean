/-! THE CLASS'S READER: a dollar, and a whole body, 2 -/
section crd4
variable {b : List Int} {t n p q d o : Nat} {μ m : zM} {S : zSn} {st : List Nat} {f : Nat}
theorem bAns.fr {μ0 : zM} {r : zEr ⊕ zBs} (hf : rdF t n μ0 μ) (h : bAns b t n μ r m) : bAns b t n μ0 r m := by
  cases r with
  | inl e => exact bEr.fr hf h
  | inr s => exact ⟨h.1, hf.tr h.2⟩
theorem adO_new (hw : wBu p S st) (f : Nat) : sD (adO S (opn st) f) (sN S) = 0 ∧ sC (adO S (opn st) f) (sN S) = 0 ∧ sP (adO S (opn st) f) (sN S) = opn st ∧ sB (adO S (opn st) f) (sN S : Nat) = [] := by
  refine ⟨?_, ?_, ?_, ?_⟩
  · show (if sN S = sN S then (0 : Int) else _) = 0; rw [if_pos rfl]
  · show (if sN S = sN S then (0 : Int) else _) = 0; rw [if_pos rfl]
  · show (if sN S = sN S then opn st else _) = opn st; rw [if_pos rfl]
  · show (if ((sN S : Nat) : Int) = opn st then _ else sB S (sN S : Nat)) = []
    have hne : ((sN S : Nat) : Int) ≠ opn st := fun e => by
      cases st with
      | nil => have e1 : opn [] = -1 := rfl; omega
      | cons x r => have e1 : opn (x :: r) = (x : Nat) := rfl; have := hw.2.1.1; omega
    rw [if_neg hne]
    refine hw.2.2.2.2.1 _ (fun h => ?_)
    rcases h with a | ⟨o, a, c, -⟩ <;> omega
theorem c_85 (ht : okT t) (hb : byB b) (h : rdB b t n μ q S st) (w : Bool) : zok (f1_readDollar_85 (d : Nat) (zb w) μ) (bAns b t n μ (bDig b d q w S st)) := by
  have h7 := hb.1
  have hq := bt_r hb q
  have kl := h.2.2.2.2.2.2.2
  have bad : ¬ (48 ≤ bt b q ∧ bt b q ≤ 57) → zok (f1_readDollar_124 μ) (bAns b t n μ (bDig b d q w S st)) := fun c => by
    have es : bDig b d q w S st = .inl (1, (q : Int)) := by unfold bDig; rw [if_pos c]
    unfold f1_readDollar_124
    rw [es, h.1.2.2.1]
    exact zok_cm (c_fail ht h hb (by decide)) (fun m hm => zok_some hm)
  unfold f1_readDollar_85
  rw [h.1.1, h.1.2.1, h.1.2.2.1, zx_nat]
  refine zok_if (fun c => bad (by rw [bt_out (by omega)]; omega)) (fun c => zok_gd ⟨by omega, by rw [zln_c.1]; omega⟩ ?_)
  rw [h.1.2.2.2 q (by omega), ← bt_in (show q < b.length by omega)]
  refine zok_if (fun c2 => bad (by omega)) (fun c2 => zok_gd ⟨by omega, by rw [zln_c.1]; omega⟩ (zok_if (fun c3 => ?_) (fun c3 => bad (by omega))))
  have hd : 48 ≤ bt b q ∧ bt b q ≤ 57 := by omega
  refine zok_cl (c_readField ht hb h hd) (fun x m hx => ?_)
  rcases hx with ⟨t1, t2, t3⟩ | ⟨t1, t2, t3, t4⟩ | ⟨t1, t2, t3, t4, t5, t6⟩
  · have es : bDig b d q w S st = .inl (4, (d : Int)) := by unfold bDig; rw [if_neg (fun c => c hd), if_pos t1]
    have t2' : x = -1 := t2
    rw [es, t2']
    exact zok_if (fun _ => zok_some t3) (fun _ => zok_t rfl (zok_some t3))
  · have es : bDig b d q w S st = .inl (5, (d : Int)) := by unfold bDig; rw [if_neg (fun c => c hd), if_neg (by rw [t1]; decide), if_pos t2]
    have t3' : x = -1 := t3
    rw [es, t3']
    exact zok_if (fun _ => zok_some t4) (fun _ => zok_t rfl (zok_some t4))
  · have t3' : x = (sN S : Nat) := t3
    subst t3'
    cases w with
    | false =>
      have es : bDig b d q false S st = .inr (q + 1, adO S (opn st) (bt b q - 48).toNat, st) := by unfold bDig; rw [if_neg (fun c => c hd), if_neg (by rw [t1]; decide), if_neg (by omega), if_pos rfl]
      rw [es]
      exact zok_t rfl (zok_some ⟨t4, t5⟩)
    | true =>
      have es : bDig b d q true S st = bBeh b d (q + 1) (adO S (opn st) (bt b q - 48).toNat) (sN S) st := by unfold bDig; rw [if_neg (fun c => c hd), if_neg (by rw [t1]; decide), if_neg (by omega), if_neg (by decide)]
      obtain ⟨n1, n2, n3, n4⟩ := adO_new h.2.2.2.2.2.2.1 (bt b q - 48).toNat
      rw [es]
      exact zok_f (by decide) (zok_f (by omega) (zok_cm (c_beh (d := d) ht hb t4 rfl n1 n2 n3 n4 t6) (fun m2 h2 => zok_some (h2.fr t5))))
theorem c_readDollar (ht : okT t) (hb : byB b) (h : rdB b t n μ p S st) (hp : p < b.length) : zok (f1_readDollar μ) (bAns b t n μ (bDol b p S st)) := by
  have h7 := hb.1
  have hq := bt_r hb (p + 1)
  unfold f1_readDollar
  refine zok_lt ?_
  rw [h.1.2.2.1]
  refine zok_gl ⟨by omega, by omega⟩ (zok_lt ?_)
  have hm := h.go (p' := p + 1) (v := (p : Int) + 1) ht (Nat.le_succ p) (by omega) (by omega)
  have hF : rdF t n μ (zsI μ 99 2 ((p : Int) + 1)) := rdF.s9 ht (by decide) _
  generalize zsI μ 99 2 ((p : Int) + 1) = m1 at *
  have esc : (bt b (p + 1) = 36 ∨ bt b (p + 1) = 125) → zok (f1_readDollar_33 m1) (bAns b t n μ (bDol b p S st)) := fun c => by
    have es : bDol b p S st = .inr (p + 2, adL S (opn st) (bt b (p + 1)), st) := by unfold bDol; rw [if_pos c]
    have hin : p + 1 < b.length := by omega
    unfold f1_readDollar_33
    rw [hm.1.1, hm.1.2.2.1, show zx ((p + 1 : Nat) : Int) = p + 1 from rfl, hm.1.2.2.2 (p + 1) hin, ← bt_in hin, es]
    refine zok_gd ⟨by omega, by rw [zln_c.1]; omega⟩ (zok_mono (c_putLit ht hb hm (by omega) (by omega) hin) (fun m2 h2 => ⟨h2.1, hF.tr h2.2⟩))
  refine zok_co (c_isAt hb hm.1 (by decide)) (fun r1 e1 => ?_)
  subst e1
  by_cases c1 : bt b (p + 1) = 36
  · rw [decide_eq_true c1]
    exact zok_f (by decide) (esc (Or.inl c1))
  · rw [decide_eq_false c1]
    refine zok_t rfl (zok_co (c_isAt hb hm.1 (by decide)) (fun r2 e2 => ?_))
    subst e2
    by_cases c2 : bt b (p + 1) = 125
    · rw [decide_eq_true c2]
      exact zok_f (by decide) (esc (Or.inr c2))
    · rw [decide_eq_false c2]
      refine zok_t rfl (zok_co (c_isAt hb hm.1 (by decide)) (fun r3 e3 => ?_))
      subst e3
      by_cases c3 : bt b (p + 1) = 123
      · have es : bDol b p S st = bDig b p (p + 2) true S st := by unfold bDol; rw [if_neg (by omega), if_pos c3]
        rw [decide_eq_true c3, es, hm.1.2.2.1]
        refine zok_f (by decide) (zok_gl ⟨by omega, by omega⟩ (zok_lt ?_))
        have hm2 := hm.go (p' := p + 2) (v := ((p + 1 : Nat) : Int) + 1) ht (by omega) (by omega) (by omega)
        have hF2 : rdF t n μ (zsI m1 99 2 (((p + 1 : Nat) : Int) + 1)) := hF.tr (rdF.s9 ht (by decide) _)
        exact zok_mono (c_85 (d := p) ht hb hm2 true) (fun m2 h2 => h2.fr hF2)
      · have es : bDol b p S st = bDig b p (p + 1) false S st := by unfold bDol; rw [if_neg (by omega), if_neg c3]
        rw [decide_eq_false c3, es]
        exact zok_t rfl (zok_mono (c_85 (d := p) ht hb hm false) (fun m2 h2 => h2.fr hF))
/-- what a body read leaves -/
def bOut (b : List Int) (t n : Nat) (μ : zM) (s : zBs) (m : zM) : Prop := (∃ e, bRd b s (.inl e) ∧ bEr t n μ e m) ∨ ∃ p S, bRd b s (.inr (p, S)) ∧ rdB b t n m p S [] ∧ rdF t n μ m
theorem bDol_go (b : List Int) (hb : byB b) (p : Nat) (S : zSn) (st : List Nat) {s : zBs} (h : bDol b p S st = .inr s) : p + 2 ≤ s.1 := by
  unfold bDol at h
  split at h
  · rw [← Sum.inr.inj h]; exact Nat.le_refl _
  · have dig : ∀ q w, p + 1 ≤ q → bDig b p q w S st = .inr s → p + 2 ≤ s.1 := fun q w hq h => by
      unfold bDig at h
      split at h
      · cases h
      · split at h
        · cases h
        · split at h
          · cases h
          · split at h
            · rw [← Sum.inr.inj h]; show p + 2 ≤ q + 1; omega
            · unfold bBeh at h
              split at h
              · rw [← Sum.inr.inj h]; show p + 2 ≤ q + 1 + 1; omega
              · split at h
                · split at h
                  · cases h
                  · split at h
                    · rw [← Sum.inr.inj h]; show p + 2 ≤ q + 1 + 3; omega
                    · cases h
                · split at h
                  · split at h
                    · cases h
                    · rw [← Sum.inr.inj h]; show p + 2 ≤ q + 1 + 1; omega
                  · cases h
    split at h
    · exact dig _ _ (by omega) h
    · exact dig _ _ (by omega) h
theorem c_readBody (ht : okT t) (hb : byB b) (h : rdB b t n μ p S []) : zok (f1_readBody μ) (bOut b t n μ (p, S, [])) := by
  have h7 := hb.1
  have q5 := okT_5 t ht.2 ht.1
  obtain ⟨q1, q2, q3, q4, qa, qb, qc, qd, qe, qf, qg, qh, qi, -, -, q16⟩ := ht.f
  unfold f1_readBody
  refine zok_lt ?_
  have h0 : rdB b t n (zsI μ 99 5 (-1)) p S [] := by
    obtain ⟨⟨k1, k2, k3, k4⟩, h1, h2, h3, h4, h6, h7, h8⟩ := h
    exact ⟨⟨k1, (zI_ni (by decide)).trans k2, (zI_ni (by decide)).trans k3, fun i hi => (zI_nk (by decide)).trans (k4 i hi)⟩, h1, zI_eq rfl rfl, ⟨(zI_ni (by decide)).trans h3.1, (zI_ni (by decide)).trans h3.2⟩, h4.s9 ht, by rw [zI_nk (by omega)]; exact h6, h7, h8⟩
  have hF0 : rdF t n μ (zsI μ 99 5 (-1)) := rdF.s9 ht (by decide) _
  refine zok_x3 (fun (x1 x2 : Int) m => 0 ≤ x2 ∧ zI m 99 1 = b.length ∧ ((x1 = 0 ∧ ∃ p' S' st', rdB b t n m p' S' st' ∧ rdF t n μ m ∧ x2 ≤ p' ∧ ∀ r, bRd b (p', S', st') r → bRd b (p, S, []) r) ∨ (x1 = 0 ∧ ∃ e, bRd b (p, S, []) (.inl e) ∧ bEr t n μ e m) ∨ (x1 = 1 ∧ ∃ p' S', bRd b (p, S, []) (.inr (p', S')) ∧ rdB b t n m p' S' [] ∧ rdF t n μ m))) (fun _ x2 _ => 800 - x2.toNat) (fun kk x1 x2 m hx ih => ?_) zFu 0 0 _ ⟨Int.le_refl _, h0.1.2.1, Or.inl ⟨rfl, p, S, [], h0, hF0, by omega, fun r hr => hr⟩⟩ (by show 800 - 0 < 100000; decide)
  obtain ⟨y0, y1, hx⟩ := hx
  have hms : ∀ x2 : Int, 0 ≤ x2 → x2 ≤ b.length → 800 - (x2 + 1).toNat < 800 - x2.toNat := fun x2 a1 a2 => by omega
  unfold f1_readBody_9
  rw [y1]
  rcases hx with ⟨rfl, p', S', st', z1, z2, z3, z4⟩ | ⟨rfl, e, z1, z2⟩ | ⟨rfl, p', S', z1, z2, z3⟩
  · have zl := z1.2.2.2.2.2.2.2
    have hF1 : ∀ {m'}, rdF t n m m' → zI m' 99 1 = b.length := fun hf => hf.2.2.1.trans y1
    refine zok_f (by omega) (zok_t rfl ?_)
    rw [z1.2.2.2.1.1, z1.1.1, z1.1.2.2.1]
    refine zok_t rfl (zok_if (fun c0 => ?_) (fun c0 => ?_))
    · have hin : p' < b.length := by omega
      rw [zx_nat, z1.1.2.2.2 p' hin, ← bt_in hin]
      refine zok_gd ⟨by omega, by rw [zln_c.1]; omega⟩ (zok_if (fun c1 => ?_) (fun c1 => zok_gd ⟨by omega, by rw [zln_c.1]; omega⟩ (zok_if (fun c2 => ?_) (fun c2 => ?_))))
      · rw [z1.2.2.1]
        cases st' with
        | nil =>
          refine zok_t rfl ?_
          unfold f1_readBody_78 f1_closePart
          rw [z1.1.2.2.1]
          refine zok_cm (P := fun m' => m' = zsI m 99 2 ((p' : Int) + 1)) (zok_gl ⟨by omega, by omega⟩ (zok_lt ?_)) (fun m' e => ?_)
          · rw [zI_ni (show (5 : Nat) ≠ 2 by decide), z1.2.2.1]
            exact zok_t rfl (zok_some rfl)
          · subst e
            have g1 := z1.go (p' := p' + 1) (v := (p' : Int) + 1) ht (Nat.le_succ p') (by omega) (by omega)
            have g2 : rdF t n m (zsI m 99 2 ((p' : Int) + 1)) := rdF.s9 ht (by decide) _
            exact zok_gl ⟨by omega, by omega⟩ (ih _ _ _ ⟨by omega, hF1 g2, Or.inr (Or.inr ⟨rfl, p' + 1, S', z4 _ (bRd.fin (by unfold bStp; rw [if_pos c1])), g1, z2.tr g2⟩)⟩ (hms x2 y0 (by omega)))
        | cons x r =>
          have hxN : x < sN S' := z1.2.2.2.2.2.2.1.2.1.1
          have h60 := z1.2.2.2.2.2.2.1.1.1
          have hxP := z1.2.2.2.2.2.2.1.2.1.2.2.1
          refine zok_f (show ¬ ((x : Nat) : Int) = -1 by omega) ?_
          unfold f1_readBody_78 f1_closePart
          rw [z1.1.2.2.1]
          have g1 := z1.go (p' := p' + 1) (v := (p' : Int) + 1) ht (Nat.le_succ p') (by omega) (by omega)
          have g2 : rdF t n m (zsI m 99 2 ((p' : Int) + 1)) := rdF.s9 ht (by decide) _
          refine zok_cm (P := fun m' => rdB b t n m' (p' + 1) S' r ∧ rdF t n m m') (zok_gl ⟨by omega, by omega⟩ (zok_lt ?_)) (fun m' hm' => ?_)
          · generalize zsI m 99 2 ((p' : Int) + 1) = m1 at *
            have e5 : zI m1 99 5 = (x : Nat) := g1.2.2.1
            rw [e5, g1.2.1, q3, qi]
            refine zok_f (by omega) (zok_gd ⟨by omega, by omega⟩ (zok_lt ?_))
            rw [zx_nat, zI_nk (show 99 ≠ t + 10 by omega), e5]
            have e4 : zR (zsI m1 (t + 10) x (zI m1 t 16)) 99 4 = t := g1.2.1
            rw [e4, q3, qd, zx_nat, zI_nk (show t + 5 ≠ t + 10 by omega), (g1.2.2.2.2.1.2.2.2.1 x hxN).2.2.2.1, hxP]
            refine zok_gd ⟨by omega, by omega⟩ (zok_lt (zok_some ?_))
            have f1 : rdF t n m1 (zsI (zsI m1 (t + 10) x (zI m1 t 16)) 99 5 (opn r)) := (rdF.sT ht (by omega) (by omega) x _).tr (rdF.s9 ht (by decide) _)
            refine ⟨?_, g2.tr f1⟩
            obtain ⟨⟨k1, k2, k3, k4⟩, h1, h2, h3, h4, h6, h7, h8⟩ := g1
            have e : ∀ i, i ≠ 5 → zI (zsI (zsI m1 (t + 10) x (zI m1 t 16)) 99 5 (opn r)) 99 i = zI m1 99 i := fun i hi => by rw [zI_ni hi, zI_nk (by omega)]
            exact ⟨⟨k1, (e 1 (by decide)).trans k2, (e 2 (by decide)).trans k3, fun i hi => by rw [zI_nk (by decide), zI_nk (by omega)]; exact k4 i hi⟩, h1, zI_eq rfl rfl, ⟨(e 6 (by decide)).trans h3.1, (e 7 (by decide)).trans h3.2⟩, (h4.shut ht h7).s9 ht, by rw [zI_nk (show t ≠ 99 by omega), zI_nk (show t ≠ t + 10 by omega)]; exact h6, h7.pop, h8⟩
          · refine zok_gl ⟨by omega, by omega⟩ (ih _ _ _ ⟨by omega, hF1 hm'.2, Or.inl ⟨rfl, p' + 1, S', r, hm'.1, z2.tr hm'.2, by omega, fun r' hr' => z4 _ (bRd.step (by unfold bStp; rw [if_pos c1]) hr')⟩⟩ (hms x2 y0 (by omega)))
      · refine zok_cm (c_readDollar ht hb z1 hin) (fun m' hm' => ?_)
        have es : bStp b p' S' st' = bGo (bDol b p' S' st') := by unfold bStp; rw [if_neg c1, if_pos c2]
        cases hr : bDol b p' S' st' with
        | inl e =>
          rw [hr] at hm' es
          have hm'' : bEr t n m e m' := hm'
          exact zok_gl ⟨by omega, by omega⟩ (ih _ _ _ ⟨by omega, hF1 hm''.2.2.2.2, Or.inr (Or.inl ⟨rfl, e, z4 _ (bRd.err es), hm''.fr z2⟩)⟩ (hms x2 y0 (by omega)))
        | inr s =>
          have hgo := bDol_go b hb p' S' st' hr
          rw [hr] at hm' es
          exact zok_gl ⟨by omega, by omega⟩ (ih _ _ _ ⟨by omega, hF1 hm'.2, Or.inl ⟨rfl, s.1, s.2.1, s.2.2, hm'.1, z2.tr hm'.2, by omega, fun r' hr' => z4 _ (bRd.step es hr')⟩⟩ (hms x2 y0 (by omega)))
      · refine zok_cm (c_readLiteral ht hb z1 hin) (fun m' hm' => ?_)
        by_cases c3 : bt b p' = 10 ∨ (32 ≤ bt b p' ∧ bt b p' ≤ 126)
        · have es : bStp b p' S' st' = .inr (.inr (p' + 1, adL S' (opn st') (bt b p'), st')) := by unfold bStp; rw [if_neg c1, if_neg c2, if_pos c3]
          rw [if_pos c3] at hm'
          exact zok_gl ⟨by omega, by omega⟩ (ih _ _ _ ⟨by omega, hF1 hm'.2, Or.inl ⟨rfl, p' + 1, _, st', hm'.1, z2.tr hm'.2, by omega, fun r' hr' => z4 _ (bRd.step es hr')⟩⟩ (hms x2 y0 (by omega)))
        · have es : bStp b p' S' st' = .inl (1, (p' : Int)) := by unfold bStp; rw [if_neg c1, if_neg c2, if_neg c3]
          rw [if_neg c3] at hm'
          have hm'' : bEr t n m (1, (p' : Int)) m' := hm'
          exact zok_gl ⟨by omega, by omega⟩ (ih _ _ _ ⟨by omega, hF1 hm''.2.2.2.2, Or.inr (Or.inl ⟨rfl, _, z4 _ (bRd.err es), hm''.fr z2⟩)⟩ (hms x2 y0 (by omega)))
    · have hpl : p' = b.length := by omega
      have es : bStp b p' S' st' = .inl (1, (p' : Int)) := by unfold bStp; rw [bt_out (by omega), if_neg (by decide), if_neg (by decide), if_neg (by omega)]
      refine zok_cm (c_fail ht z1 hb (by decide)) (fun m' hm' => ?_)
      refine zok_gl ⟨by omega, by omega⟩ (ih _ _ _ ⟨by omega, hF1 hm'.2.2.2.2, Or.inr (Or.inl ⟨rfl, _, z4 _ (bRd.err es), ?_⟩)⟩ (hms x2 y0 (by omega)))
      rw [hpl]
      exact hm'.fr z2
  · refine zok_if (fun c => zok_some (Or.inl ⟨e, z1, z2⟩)) (fun c => zok_t rfl (zok_f ?_ (zok_some (Or.inl ⟨e, z1, z2⟩))))
    rw [z2.1]; exact z2.2.2.1
  · refine zok_if (fun c => zok_some (Or.inr ⟨p', S', z1, z2, z3⟩)) (fun c => zok_f (by decide) (zok_some (Or.inr ⟨p', S', z1, z2, z3⟩)))
end crd4
