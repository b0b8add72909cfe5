/-! THE REFERENCE'S READER: an order, and the whole library -/
section mall
variable {b : List Int} {bb k n p q d o nn : Nat} {μ m m' : zM} {S : zSn} {st : List Nat} {v : Int} {f j c : Nat} {L : Nat → zSn} {oo : Int}
theorem n_isW (hby : byB b) (hK : mdK b μ) (ht : rdTk b μ q) (hq : q ≤ b.length) {s : Nat} {W : List Int} (hs : isStr s W) (hW : 0 < W.length) : zok (f7_is s μ) (fun r => r = decide (wrd b q (spn isLt b q) = W)) := by
  have hr := tkE_r hby hq
  refine zok_mono (n_is hby hK hs hW ht.1 ht.2.2.2 ht.2.1 hr.1 hr.2.1) (fun r er => ?_)
  rw [er]
  cases hl : isLt (bt b q) with
  | true => rw [(lt_yes hby hl).2, Bool.true_and]
  | false =>
    rw [lt_no hl, Bool.false_and]
    symm
    refine decide_eq_false (fun e => ?_)
    unfold wrd at e
    rw [show q - q = 0 by omega, List.take_zero] at e
    rw [← e] at hW
    exact Nat.lt_irrefl 0 hW
theorem n_readOrder (hb : okB bb) (hby : byB b) (h : rdLB b bb n L oo μ q) (ht : rdTk b μ q) (hq : q < b.length) (hw : wrd b q (spn isLt b q) = wOrd) : zok (f7_readOrder μ) (fun r => (∃ e, r.1 = false ∧ gEr bb μ e r.2 ∧ orOf b q = .inl e) ∨ (∃ q' o', orOf b q = .inr (q', o') ∧ r.1 = true ∧ rdLB b bb n L o' r.2 q ∧ zI r.2 292 14 = (q' : Nat) ∧ q' ≤ b.length ∧ gfM bb μ r.2)) := by
  have h7 := hby.1
  have bn : ∀ j, j ≤ 13 → 292 ≠ bb + j := fun j hj e => (b_ne hb hj).1 e.symm
  have hlt : isLt (bt b q) = true := by
    cases e : isLt (bt b q) with
    | true => rfl
    | false =>
      rw [lt_no e] at hw
      unfold wrd at hw
      rw [show q - q = 0 by omega, List.take_zero] at hw
      exact absurd hw (by decide)
  obtain ⟨y1, y2⟩ := lt_yes hby hlt
  have hel : spn isLt b q ≤ b.length := spn_le isLt (by omega)
  obtain ⟨x15, x17, x14, x16⟩ := ht
  rw [y2] at x14 x16
  obtain ⟨e0, he0⟩ : ∃ e0, spn isLt b q = e0 := ⟨_, rfl⟩
  obtain ⟨q1, hq1⟩ : ∃ q1, spn isBl b e0 = q1 := ⟨_, rfl⟩
  obtain ⟨e1, he1⟩ : ∃ e1, spn isLt b q1 = e1 := ⟨_, rfl⟩
  obtain ⟨q2, hq2⟩ : ∃ q2, spn isBl b e1 = q2 := ⟨_, rfl⟩
  have eo : orOf b q = if wrd b q1 e1 ≠ wPla ∧ wrd b q1 e1 ≠ wNum then .inl (1, (q1 : Int)) else if bt b q2 = 59 then .inr (q2 + 1, if wrd b q1 e1 = wPla then 1 else 0) else .inl (1, ((q2 : Nat) : Int)) := by
    unfold orOf
    simp only
    rw [he0, hq1, he1, hq2]
  rw [he0] at x14 hel
  have hq1l : q1 ≤ b.length := by rw [← hq1]; exact spn_le isBl hel
  have he1l : e1 ≤ b.length := by rw [← he1]; exact spn_le isLt hq1l
  have hq2l : q2 ≤ b.length := by rw [← hq2]; exact spn_le isBl he1l
  unfold f7_readOrder
  refine zok_cm (n_token2 hb hby h x14 hel) (fun m1 hm1 => ?_)
  obtain ⟨t1, g1, k1⟩ := hm1
  rw [hq1] at k1
  have F1 : gfM bb μ m1 := gfM.tk hb t1
  have k15 := k1.1
  have h11 := g1.2.2.2.2.2.2.1.1
  -- behind the sign
  have aft : ∀ s0 : Int, (s0 = 0 ∨ s0 = 1) → (if wrd b q1 e1 = wPla then (1 : Int) else 0) = s0 → ¬ (wrd b q1 e1 ≠ wPla ∧ wrd b q1 e1 ≠ wNum) → zok (f7_readOrder_50 s0 bb m1) (fun r => (∃ e, r.1 = false ∧ gEr bb μ e r.2 ∧ orOf b q = .inl e) ∨ (∃ q' o', orOf b q = .inr (q', o') ∧ r.1 = true ∧ rdLB b bb n L o' r.2 q ∧ zI r.2 292 14 = (q' : Nat) ∧ q' ≤ b.length ∧ gfM bb μ r.2)) := fun s0 hs0 es0 hno => by
    rw [if_neg hno, es0] at eo
    have hlt1 : isLt (bt b q1) = true := by
      cases e : isLt (bt b q1) with
      | true => rfl
      | false =>
        have h1 := lt_no e
        rw [he1] at h1
        exfalso
        have : wrd b q1 e1 = [] := by unfold wrd; rw [show e1 - q1 = 0 by omega, List.take_zero]
        rw [this] at hno
        exact hno ⟨by decide, by decide⟩
    obtain ⟨y3, y4⟩ := lt_yes hby hlt1
    obtain ⟨-, -, k14, -⟩ := k1
    rw [y4, he1] at k14
    obtain ⟨g21, g22, g23, g24, g25, g26, g27, g28, g29, g2a⟩ := g1
    have e3 : ∀ c, c ≠ bb → ∀ i, zI (zsI m1 bb 1 s0) c i = zI m1 c i := fun c hc i => zI_nk hc
    have o292 := e3 292 (bn 0 (by decide))
    have G3 : rdLB b bb n L s0 (zsI m1 bb 1 s0) q := by
      obtain ⟨nn, hn⟩ : ∃ nn : Nat, zI m1 292 20 = nn := ⟨(zI m1 292 20).toNat, by omega⟩
      refine ⟨⟨(o292 10).trans g21.1, fun i hi => (e3 313 (fun e => (b_ne hb (show 0 ≤ 13 by decide)).2.1 e.symm) i).trans (g21.2 i hi)⟩, g22, (zI_ni (by decide)).trans g23, g24, zI_eq rfl rfl, hs0, ⟨(o292 11).trans g27.1, (o292 12).trans g27.2⟩, by rw [o292]; exact g28, fun hn0 => by rw [o292, e3 _ (by omega)]; exact g29 hn0, fun k hk => ?_⟩
      exact (g2a k hk).lo (k := n) hn (by rw [o292, hn]; exact Int.le_refl _) (fun j j1 j2 i _ => e3 _ (by omega) i) hk
    have F3 : gfM bb μ (zsI m1 bb 1 s0) := F1.tr ⟨zSm.rf.sI (fun h => by have := h.2.2; omega), fun _ => rfl, fun i _ => o292 i⟩
    have g14 : zI (zsI m1 bb 1 s0) 292 14 = (e1 : Nat) := (o292 14).trans k14
    unfold f7_readOrder_50
    refine zok_lt ?_
    generalize zsI m1 bb 1 s0 = m3 at *
    refine zok_cm (n_token2 hb hby G3 g14 he1l) (fun m4 hm4 => ?_)
    obtain ⟨t4, g4, k4⟩ := hm4
    rw [hq2] at k4
    have F4 : gfM bb μ m4 := F3.tr (gfM.tk hb t4)
    refine zok_co (n_isSign hby g4.1 k4.1 k4.2.1 59) (fun r er => ?_)
    subst er
    by_cases cb : bt b q2 = 59
    · have hlf : isLt (bt b q2) = false := by rw [cb]; decide
      have hin : q2 < b.length := by
        rcases bt_r hby q2 with ⟨a, -⟩ | ⟨-, -, a⟩
        · omega
        · exact a
      have htk2 : tkE b q2 = q2 + 1 := by unfold tkE; rw [hlf, if_neg (by decide), if_neg (by omega)]
      rw [if_pos cb] at eo
      rw [hlf, decide_eq_true cb]
      exact zok_f (by decide) (zok_some (Or.inr ⟨q2 + 1, s0, eo, rfl, g4, k4.2.2.1.trans (by rw [htk2]), by omega, F4⟩))
    · rw [if_neg cb] at eo
      rw [decide_eq_false cb, Bool.and_false, k4.1]
      refine zok_t rfl (zok_cl (n_failG hb g4.2.2.2.2.2.2.1.1 (by decide) _ F4) (fun x m hx => ?_))
      have hx1 : x = false := hx.1
      rw [hx1]
      exact zok_t rfl (zok_some (Or.inl ⟨_, rfl, hx.2, eo⟩))
  have aft2 : ¬ (wrd b q1 e1 ≠ wPla ∧ wrd b q1 e1 ≠ wNum) → zok (f7_readOrder_32 m1) (fun r => (∃ e, r.1 = false ∧ gEr bb μ e r.2 ∧ orOf b q = .inl e) ∨ (∃ q' o', orOf b q = .inr (q', o') ∧ r.1 = true ∧ rdLB b bb n L o' r.2 q ∧ zI r.2 292 14 = (q' : Nat) ∧ q' ≤ b.length ∧ gfM bb μ r.2)) := fun hno => by
    unfold f7_readOrder_32
    refine zok_co (n_isW hby g1.1 k1 hq1l str20 (by decide)) (fun r er => ?_)
    subst er
    rw [g1.2.1, he1]
    by_cases c : wrd b q1 e1 = wPla
    · rw [decide_eq_true c]
      exact zok_f (by decide) (aft 1 (Or.inr rfl) (if_pos c) hno)
    · rw [decide_eq_false c]
      exact zok_t rfl (aft 0 (Or.inl rfl) (if_neg c) hno)
  refine zok_co (n_isW hby g1.1 k1 hq1l str19 (by decide)) (fun r er => ?_)
  subst er
  rw [he1]
  by_cases c1 : wrd b q1 e1 = wNum
  · rw [decide_eq_true c1]
    exact zok_f (by decide) (aft2 (fun h => h.2 c1))
  · rw [decide_eq_false c1]
    refine zok_t rfl (zok_co (n_isW hby g1.1 k1 hq1l str20 (by decide)) (fun r er => ?_))
    subst er
    rw [he1]
    by_cases c2 : wrd b q1 e1 = wPla
    · rw [decide_eq_true c2]
      exact zok_f (by decide) (aft2 (fun h => h.1 c2))
    · rw [decide_eq_false c2, k15]
      rw [if_pos ⟨c2, c1⟩] at eo
      exact zok_t rfl (zok_cl (n_failG hb h11 (by decide) _ F1) (fun x m hx => zok_some (Or.inl ⟨_, hx.1, hx.2, eo⟩)))
def mLib (b : List Int) (bb : Nat) (μ : zM) (s : zLs) (r : Bool × zM) : Prop := (∃ e, lRd b s (.inl e) ∧ r.1 = false ∧ gEr bb μ e r.2) ∨ ∃ p n L o, lRd b s (.inr (p, n, L, o)) ∧ r.1 = true ∧ rdLB b bb n L o r.2 b.length ∧ gfM bb μ r.2
theorem n_readAll (hb : okB bb) (hby : byB b) (h : rdLB b bb 0 L 0 μ 0) (hp : zI μ 292 14 = 0) : zok (f7_readAll μ) (mLib b bb μ (spn isBl b 0, 0, L, 0)) := by
  have h7 := hby.1
  unfold f7_readAll
  refine zok_cm (n_token2 (p := 0) hb hby h hp (Nat.zero_le _)) (fun m1 hm1 => ?_)
  obtain ⟨t1, g1, k1⟩ := hm1
  refine zok_x1 (fun m => ∃ q n L' oo, q ≤ b.length ∧ rdLB b bb n L' oo m q ∧ rdTk b m q ∧ gfM bb μ m ∧ ∀ r, lRd b (q, n, L', oo) r → lRd b (spn isBl b 0, 0, L, 0) r) (fun m => 800 - (zI m 292 15).toNat) (fun kk m hx ih => ?_) zFu m1 ⟨_, 0, L, 0, spn_le isBl (Nat.zero_le _), g1.le (Nat.zero_le _), k1, gfM.tk hb t1, fun r hr => hr⟩ (by show 800 - _ < 100000; omega)
  obtain ⟨q, n, L', oo, hq, g, k, F, hr⟩ := hx
  have hr2 := tkE_r hby hq
  unfold f7_readAll_4
  rw [k.1, k.2.2.2]
  refine zok_if (fun c => zok_some (Or.inr ⟨q, n, L', oo, hr _ (lRd.fin (hr2.2.2.mp (by omega))), rfl, g.le hq, F⟩)) (fun c => ?_)
  have hin : q < b.length := by
    rcases Nat.lt_or_ge q b.length with h1 | h1
    · exact h1
    · have := hr2.2.2.mpr h1; omega
  -- the next token
  have nx : ∀ (m' : zM) (p' n' : Nat) (L2 : Nat → zSn) (o' : Int), q < p' → p' ≤ b.length → rdLB b bb n' L2 o' m' p' → zI m' 292 14 = (p' : Nat) → gfM bb m m' → (∀ r, lRd b (spn isBl b p', n', L2, o') r → lRd b (q, n, L', oo) r) → zok (f7_readAll_56 kk 1 m') (mLib b bb μ (spn isBl b 0, 0, L, 0)) := fun m' p' n' L2 o' hp1 hp2 hg hm hF hl => by
    unfold f7_readAll_56
    refine zok_f (by decide) (zok_cm (n_token2 hb hby hg hm hp2) (fun m2 hm2 => ?_))
    obtain ⟨t2, g2, k2⟩ := hm2
    have s1 := spn_ge isBl b p'
    refine ih _ ⟨_, n', L2, o', spn_le isBl hp2, g2.le s1, k2, (F.tr hF).tr (gfM.tk hb t2), fun r h' => hr r (hl r h')⟩ ?_
    rw [k2.1, k.1]; omega
  have er : ∀ (m' : zM) (e : zEr), lRd b (q, n, L', oo) (.inl e) → gEr bb m e m' → zok (f7_readAll_56 kk 0 m') (mLib b bb μ (spn isBl b 0, 0, L, 0)) := fun m' e hl hg => by
    unfold f7_readAll_56
    exact zok_t rfl (zok_some (Or.inl ⟨e, hr _ hl, rfl, hg.fr F⟩))
  refine zok_co (n_isW hby g.1 k hq str17 (by decide)) (fun r e => ?_)
  subst e
  by_cases c1 : wrd b q (spn isLt b q) = wSnip
  · rw [decide_eq_true c1]
    refine zok_f (by decide) (zok_cl (n_readSnippet hb hby g k hin c1) (fun x m' hx => ?_))
    rcases hx with ⟨e, x1, x2, x3⟩ | ⟨p', S, nm, q', x1, x2, x3, x4, x5, x6, x7⟩
    · have x1' : x = false := x1
      rw [x1']
      exact er m' e x3 x2
    · have x3' : x = true := x3
      rw [x3']
      obtain ⟨nf, hnf⟩ := x2
      have hgo := (bRun_go hby nf _ _ hnf).2
      have hgo2 := hdOf_go x1
      have hgo' : q' < p' := hgo
      exact nx m' p' (n + 1) _ oo (by omega) x6 x4 x5 x7 (fun r hr' => lRd.snip hin c1 x1 ⟨nf, hnf⟩ hr')
  · rw [decide_eq_false c1]
    refine zok_t rfl (zok_co (n_isW hby g.1 k hq str18 (by decide)) (fun r e => ?_))
    subst e
    by_cases c2 : wrd b q (spn isLt b q) = wOrd
    · rw [decide_eq_true c2]
      refine zok_f (by decide) (zok_cl (n_readOrder hb hby g k hin c2) (fun x m' hx => ?_))
      rcases hx with ⟨e, x1, x2, x3⟩ | ⟨q', o', x1, x3, x4, x5, x6, x7⟩
      · have x1' : x = false := x1
        rw [x1']
        exact er m' e (lRd.ordE hin c2 x3) x2
      · have x3' : x = true := x3
        rw [x3']
        have hgo := orOf_go x1
        exact nx m' q' n _ o' hgo x6 (x4.le (by omega)) x5 x7 (fun r hr' => lRd.ord hin c2 x1 hr')
    · rw [decide_eq_false c2]
      refine zok_t rfl (zok_cl (n_failG hb g.2.2.2.2.2.2.1.1 (by decide) _ gfM.rf) (fun x m' hx => ?_))
      have x1' : x = false := hx.1
      rw [x1']
      exact er m' _ (lRd.bad hin c1 c2) hx.2
end mall
