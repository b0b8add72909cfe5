/-! THE CLASS'S READER: the order -/
section ordr
variable {b : List Int} {p q c n u t : Nat} {L : Nat → zSn} {o : Int} {μ m : zM}
theorem rdN.lib (hu : u = 7 ∨ u = 101) (hn : n ≤ 8) (h : rdN u c n L μ) (hs : ∀ c, u + 2 ≤ c → c ≤ u + 91 → ∀ i, zI m c i = zI μ c i) : rdN u c n L m := by
  obtain ⟨h1, h2, h3, h4⟩ := h
  refine ⟨fun k hk => ?_, h2, fun hn0 => ?_, h4⟩
  · obtain ⟨a1, a2, a3⟩ := h1 k hk
    have hit := (lib_f hu (show k < 8 by omega)).2
    refine ⟨a1.lo (fun c c1 c2 i => hs c (by omega) (by omega) i) (fun i _ => ?_), a2, by rw [hs _ (by omega) (by omega)]; exact a3⟩
    rw [hit]
    exact ⟨hs _ (by omega) (by omega) i, hs _ (by omega) (by omega) i⟩
  · rw [hs _ (by omega) (by omega)]; exact h3 hn0
theorem rdL.go (hu : u = 7 ∨ u = 101) (h : rdL b u c n L o μ p) (hK : rdK b m q) (hP : rdP μ m) (hpq : p ≤ q) (hq : q ≤ b.length) : rdL b u c n L o m q := by
  obtain ⟨K, hpl, h3, h1, hn, h2, ho, h6, h77, hN, hcp⟩ := h
  have eO : ∀ c, c ≠ 99 → ∀ i, zI m c i = zI μ c i := fun c hc i => (hP.1 c hc i).1
  exact ⟨hK, hq, (hP.2.1 3).trans h3, (eO u (by omega) 1).trans h1, hn, (eO u (by omega) 2).trans h2, ho, (hP.2.2 6 (by decide)).trans h6, (hP.2.2 7 (by decide)).trans h77, hN.lib hu hn (fun c c1 c2 i => eO c (by omega) i), by omega⟩
theorem c_readOrder (hu : u = 7 ∨ u = 101) (hb : byB b) (h : rdL b u c n L o μ p) : zok (f1_readOrder ((spn isLt b p : Nat) : Int) μ) (fun m => (∃ er, orOf b p = .inl er ∧ lEr b u μ er m) ∨ (∃ q' o', orOf b p = .inr (q', o') ∧ p ≤ q' ∧ rdL b u c n L o' m q' ∧ rdG u μ m)) := by
  have h7 := hb.1
  have hpl := h.2.1
  have es : orOf b p = (if wrd b (spn isBl b (spn isLt b p)) (spn isLt b (spn isBl b (spn isLt b p))) ≠ wPla ∧ wrd b (spn isBl b (spn isLt b p)) (spn isLt b (spn isBl b (spn isLt b p))) ≠ wNum then .inl (1, ((spn isBl b (spn isLt b p) : Nat) : Int)) else if bt b (spn isBl b (spn isLt b (spn isBl b (spn isLt b p)))) = 59 then .inr (spn isBl b (spn isLt b (spn isBl b (spn isLt b p))) + 1, if wrd b (spn isBl b (spn isLt b p)) (spn isLt b (spn isBl b (spn isLt b p))) = wPla then 1 else 0) else .inl (1, ((spn isBl b (spn isLt b (spn isBl b (spn isLt b p))) : Nat) : Int))) := rfl
  rw [es]
  have a1 := spn_ge isLt b p
  have a2 := spn_le isLt (b := b) hpl
  generalize spn isLt b p = e at *
  have a3 := spn_ge isBl b e
  have a4 := spn_le isBl (b := b) (p := e) a2
  unfold f1_readOrder
  refine zok_lt (zok_cm (c_skip hb (h.1.set (q := e) rfl) (by omega)) (fun m2 hm2 => ?_))
  obtain ⟨K2, P2⟩ := hm2
  have P2' : rdP μ m2 := (rdP.set _).tr P2
  generalize spn isBl b e = q at *
  refine zok_co (c_endW hb K2 (by omega)) (fun r er => ?_)
  subst er
  have a5 := spn_ge isLt b q
  have a6 := spn_le isLt (b := b) (p := q) a4
  generalize spn isLt b q = e2 at *
  have a7 := spn_ge isBl b e2
  have a8 := spn_le isBl (b := b) (p := e2) a6
  generalize hW : wrd b q e2 = W at *
  have main : (W = wPla ∨ W = wNum) → ∀ x : Int, x = (if W = wPla then 1 else 0) → zok (f1_readOrder_46 ((e : Nat) : Int) ((e2 : Nat) : Int) x m2) (fun m => (∃ er, (if W ≠ wPla ∧ W ≠ wNum then (Sum.inl (1, ((q : Nat) : Int)) : zEr ⊕ (Nat × Int)) else if bt b (spn isBl b e2) = 59 then .inr (spn isBl b e2 + 1, if W = wPla then 1 else 0) else .inl (1, ((spn isBl b e2 : Nat) : Int))) = .inl er ∧ lEr b u μ er m) ∨ (∃ q' o', (if W ≠ wPla ∧ W ≠ wNum then (Sum.inl (1, ((q : Nat) : Int)) : zEr ⊕ (Nat × Int)) else if bt b (spn isBl b e2) = 59 then .inr (spn isBl b e2 + 1, if W = wPla then 1 else 0) else .inl (1, ((spn isBl b e2 : Nat) : Int))) = .inr (q', o') ∧ p ≤ q' ∧ rdL b u c n L o' m q' ∧ rdG u μ m)) := by
    intro hw x hx
    have hx01 : x = 0 ∨ x = 1 := by
      rw [hx]
      by_cases c1 : W = wPla
      · rw [if_pos c1]; exact Or.inr rfl
      · rw [if_neg c1]; exact Or.inl rfl
    rw [if_neg (show ¬ (W ≠ wPla ∧ W ≠ wNum) from fun q => hw.elim q.1 q.2)]
    unfold f1_readOrder_46
    refine zok_lt (zok_cm (c_skip hb (K2.set (q := e2) rfl) (by omega)) (fun m5 hm5 => ?_))
    obtain ⟨K5, P5⟩ := hm5
    have P5' : rdP μ m5 := P2'.tr ((rdP.set _).tr P5)
    refine zok_co (c_isAt hb K5 (by decide)) (fun r er => ?_)
    subst er
    rw [K5.2.2.1]
    by_cases c1 : bt b (spn isBl b e2) = 59
    · have hin := bt_r hb (spn isBl b e2)
      rw [decide_eq_true c1, if_pos c1]
      refine zok_f (by decide) (zok_gl ⟨by omega, by omega⟩ (zok_lt (zok_gd hx01 (zok_lt (zok_some (Or.inr ⟨_, _, rfl, by omega, ?_, ?_⟩))))))
      · have hr := h.go hu (K5.set (q := spn isBl b e2 + 1) (v := ((spn isBl b e2 : Nat) : Int) + 1) (by omega)) (P5'.tr (rdP.set _)) (by omega) (by omega)
        generalize zsI m5 99 2 (((spn isBl b e2 : Nat) : Int) + 1) = m6 at *
        obtain ⟨K, hpl, h3, h1, hn, h2, ho, h6, h77, hN, hcp⟩ := hr
        rw [h3]
        exact ⟨⟨K.1, (zI_nk (by omega)).trans K.2.1, (zI_nk (by omega)).trans K.2.2.1, fun i hi => (zI_nk (by omega)).trans (K.2.2.2 i hi)⟩, hpl, h3, (zI_ni (by decide)).trans h1, hn, (zI_eq rfl rfl).trans hx, by rw [← hx]; exact hx01, (zI_nk (by omega)).trans h6, (zI_nk (by omega)).trans h77, hN.lib hu hn (fun c c1 c2 i => zI_nk (by omega)), hcp⟩
      · have e3 : zR (zsI m5 99 2 (((spn isBl b e2 : Nat) : Int) + 1)) 99 3 = u := (P5'.2.1 3).trans h.2.2.1
        rw [e3]
        exact (P5'.tr (rdP.set _)).g.tr ⟨zSm.rf.sI (fun q => by omega), rfl⟩
    · rw [decide_eq_false c1, if_neg c1]
      exact zok_t rfl (zok_cm (c_failL K5 (by omega) P5'.g (by decide)) (fun m8 h8 => zok_some (Or.inl ⟨_, rfl, h8⟩)))
  refine zok_co (c_isWord hb K2 str2 a5 a6) (fun r er => ?_)
  subst er
  rw [hW]
  by_cases c1 : W = wPla
  · rw [decide_eq_true c1]
    exact zok_f (by decide) (main (Or.inl c1) _ (by rw [if_pos c1]; rfl))
  · rw [decide_eq_false c1]
    refine zok_t rfl (zok_co (c_isWord hb K2 str3 a5 a6) (fun r er => ?_))
    subst er
    rw [hW]
    by_cases c2 : W = wNum
    · rw [decide_eq_true c2]
      exact zok_f (by decide) (main (Or.inr c2) _ (by rw [if_neg c1]; rfl))
    · rw [decide_eq_false c2, if_pos (show W ≠ wPla ∧ W ≠ wNum from ⟨c1, c2⟩), K2.2.2.1]
      exact zok_t rfl (zok_cm (c_failL K2 (by omega) P2'.g (by decide)) (fun m3 h3 => zok_some (Or.inl ⟨_, rfl, h3⟩)))
end ordr
