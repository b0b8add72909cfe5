/-! THE CLASS'S READER: the head of a snippet, 3; the order -/
section hd3
variable {b : List Int} {p q c n u t : Nat} {L : Nat → zSn} {o : Int} {μ m : zM}
theorem tw_in (P : Int → Bool) (l : List Int) : ∀ i, i < (l.takeWhile P).length → P (l.getD i 0) = true := by
  induction l with
  | nil => intro i hi; cases hi
  | cons x l ih =>
    intro i hi
    rw [List.takeWhile_cons] at hi
    by_cases c : P x = true
    · rw [if_pos c] at hi
      cases i with
      | zero => exact c
      | succ i =>
        have := ih i (by rw [List.length_cons] at hi; omega)
        simpa using this
    · rw [if_neg c] at hi; cases hi
theorem spn_all {e2 i : Nat} (he : spn isLt b q = e2) (hi : i < e2 - q) : 97 ≤ b.getD (q + i) 0 ∧ b.getD (q + i) 0 ≤ 122 := by
  have e : e2 - q = ((b.drop q).takeWhile isLt).length := by rw [← he]; unfold spn; omega
  have := tw_in isLt (b.drop q) i (by omega)
  rw [List.getD_eq_getElem?_getD, List.getElem?_drop, ← List.getD_eq_getElem?_getD] at this
  exact of_decide_eq_true this
theorem c_readHead (hu : u = 7 ∨ u = 101) (hb : byB b) (h : rdL b u c n L o μ p) : zok (f1_readHead ((spn isLt b p : Nat) : Int) μ) (fun m => (∃ er, hdOf b p n L = .inl er ∧ lEr b u μ er m) ∨ (∃ q' nm, n < 8 ∧ hdOf b p n L = .inr (q', nm) ∧ (1 ≤ nm.length ∧ nm.length ≤ 8 ∧ (∀ i, i < nm.length → 97 ≤ nm.getD i 0 ∧ nm.getD i 0 ≤ 122) ∧ fndI L nm n = -1) ∧ rdK b m q' ∧ q' ≤ b.length ∧ c ≤ q' ∧ zR m 99 4 = u + 4 + 11 * n ∧ zI m 99 6 = 0 ∧ pC m (u + 4 + 11 * n) (nwS nm) [] ∧ zI m (u + 4 + 11 * n) 16 = c ∧ zI m 99 7 = -1 ∧ zR m 99 3 = u ∧ zSm (fun c => c ≠ 99 ∧ (c < u + 4 + 11 * n ∨ u + 4 + 11 * n + 10 < c)) μ m)) := by
  have h7 := hb.1
  obtain ⟨K, hpl, h3, h1, hn, h2, ho, h6, h77, ⟨N1, N2, N3, N4⟩, hcp⟩ := h
  have es : hdOf b p n L = (if n = 8 then .inl (5, (p : Int)) else if spn isLt b (spn isBl b (spn isLt b p)) = spn isBl b (spn isLt b p) ∨ 8 < spn isLt b (spn isBl b (spn isLt b p)) - spn isBl b (spn isLt b p) then .inl (1, ((spn isBl b (spn isLt b p) : Nat) : Int)) else if fndI L (wrd b (spn isBl b (spn isLt b p)) (spn isLt b (spn isBl b (spn isLt b p)))) n ≠ -1 then .inl (3, ((spn isBl b (spn isLt b p) : Nat) : Int)) else if bt b (spn isBl b (spn isLt b (spn isBl b (spn isLt b p)))) = 123 then .inr (spn isBl b (spn isLt b (spn isBl b (spn isLt b p))) + 1, wrd b (spn isBl b (spn isLt b p)) (spn isLt b (spn isBl b (spn isLt b p)))) else .inl (1, ((spn isBl b (spn isLt b (spn isBl b (spn isLt b p))) : Nat) : Int))) := rfl
  rw [es]
  have a1 := spn_ge isLt b p
  have a2 := spn_le isLt (b := b) hpl
  generalize spn isLt b p = e at *
  have a3 := spn_ge isBl b e
  have a4 := spn_le isBl (b := b) (p := e) a2
  unfold f1_readHead
  rw [h3, h1]
  refine zok_if (fun c8 => ?_) (fun c8 => ?_)
  · rw [if_neg (show ¬ n = 8 by omega)]
    refine zok_lt (zok_cm (c_skip hb (K.set (q := e) rfl) (by omega)) (fun m2 hm2 => ?_))
    obtain ⟨K2, P2⟩ := hm2
    have P2' : rdP μ m2 := (rdP.set _).tr P2
    generalize hq : spn isBl b e = q at *
    refine zok_co (c_endW hb K2 (by omega)) (fun r er => ?_)
    subst er
    have a5 := spn_ge isLt b q
    have a6 := spn_le isLt (b := b) (p := q) a4
    generalize he2 : spn isLt b q = e2 at *
    have hl := wrd_len (b := b) (p := q) (e := e2) a5 a6
    rw [K2.2.2.1]
    have bad : zok (f1_readHead_51 ((e : Nat) : Int) m2) (lEr b u μ (1, (q : Int))) := by
      unfold f1_readHead_51
      rw [K2.2.2.1]
      exact zok_cm (c_failL K2 (by omega) P2'.g (by decide)) (fun m3 h3 => zok_some h3)
    refine zok_gl ⟨by omega, by omega⟩ (zok_if (fun c1 => ?_) (fun c1 => zok_if (fun c2 => ?_) (fun c2 => ?_)))
    · rw [if_pos (show e2 = q ∨ 8 < e2 - q by omega)]
      exact zok_mono bad (fun m3 h3 => Or.inl ⟨_, rfl, h3⟩)
    · rw [if_neg (show ¬ (e2 = q ∨ 8 < e2 - q) by omega)]
      have e99 : ∀ i, i ≠ 2 → zI m2 99 i = zI μ 99 i := P2'.2.2
      have eO : ∀ c, c ≠ 99 → ∀ i, zI m2 c i = zI μ c i := fun c hc i => (P2'.1 c hc i).1
      have r3 : zR m2 99 3 = u := (P2'.2.1 3).trans h3
      have eu : zI m2 u 1 = n := (eO u (by omega) 1).trans h1
      rw [r3, K2.1, show (e2 : Int) - (q : Int) = ((wrd b q e2).length : Nat) by omega]
      refine zok_co (c_indexOf (L := L) (n := n) (r := 2) (p := q) (b := wrd b q e2) hu hn eu (fun k hk => ?_) (fun k hk => (N1 k hk).2.1) N4 (fun i hi => ?_) (by rw [zln_c.1]; omega) (by rw [zln_c.1]; decide)) (fun r er => ?_)
      · have ⟨ht, hit⟩ := lib_f hu (show k < 8 by omega)
        have q5 := okT_5 _ ht.2 ht.1
        exact ((N1 k hk).1.lo (fun c c1 c2 i => eO c (by omega) i) (fun i _ => ⟨eO _ (by omega) i, eO _ (by omega) i⟩)).sc (N1 k hk).2.1
      · rw [K2.2.2.2 (q + i) (by omega), wrd_get (by omega)]
      · subst er
        rw [hl]
        refine zok_if (fun c3 => ?_) (fun c3 => ?_)
        · rw [if_neg (show ¬ fndI L (wrd b q e2) n ≠ -1 from fun h => h c3), eu]
          refine zok_gl ⟨by omega, by omega⟩ (zok_gd ⟨by omega, by rw [zln_lib hu]; omega⟩ (zok_lt ?_))
          rw [zx_nat]
          have ⟨ht, hit⟩ := lib_f hu (show n < 8 by omega)
          have q5 := okT_5 _ ht.2 ht.1
          have K3 : rdK b (zsR m2 99 4 (u + 4 + 11 * n)) q := ⟨(zR_ni (by decide)).trans K2.1, K2.2.1, K2.2.2.1, K2.2.2.2⟩
          have r33 : zR (zsR m2 99 4 (u + 4 + 11 * n)) 99 3 = u := (zR_ni (by decide)).trans r3
          have r34 : zR (zsR m2 99 4 (u + 4 + 11 * n)) 99 4 = u + 4 + 11 * n := zR_eq rfl rfl
          have f3 : zSm (fun c => c ≠ 99) μ (zsR m2 99 4 (u + 4 + 11 * n)) := P2'.1.sR (fun q => q rfl)
          have i3 : ∀ c i, zI (zsR m2 99 4 (u + 4 + 11 * n)) c i = zI m2 c i := fun _ _ => rfl
          generalize zsR m2 99 4 (u + 4 + 11 * n) = m3 at *
          have main : zok (f1_readHead_144 ((e : Nat) : Int) ((e2 - q : Nat) : Int) (c : Int) (u + 4 + 11 * n) m3) (fun m => (∃ er, (if bt b (spn isBl b e2) = 123 then (Sum.inr (spn isBl b e2 + 1, wrd b q e2) : zEr ⊕ (Nat × List Int)) else .inl (1, ((spn isBl b e2 : Nat) : Int))) = .inl er ∧ lEr b u μ er m) ∨ (∃ q' nm, n < 8 ∧ (if bt b (spn isBl b e2) = 123 then (Sum.inr (spn isBl b e2 + 1, wrd b q e2) : zEr ⊕ (Nat × List Int)) else .inl (1, ((spn isBl b e2 : Nat) : Int))) = .inr (q', nm) ∧ (1 ≤ nm.length ∧ nm.length ≤ 8 ∧ (∀ i, i < nm.length → 97 ≤ nm.getD i 0 ∧ nm.getD i 0 ≤ 122) ∧ fndI L nm n = -1) ∧ rdK b m q' ∧ q' ≤ b.length ∧ c ≤ q' ∧ zR m 99 4 = u + 4 + 11 * n ∧ zI m 99 6 = 0 ∧ pC m (u + 4 + 11 * n) (nwS nm) [] ∧ zI m (u + 4 + 11 * n) 16 = c ∧ zI m 99 7 = -1 ∧ zR m 99 3 = u ∧ zSm (fun c => c ≠ 99 ∧ (c < u + 4 + 11 * n ∨ u + 4 + 11 * n + 10 < c)) μ m)) := by
            refine zok_mono (c_144 (p := p) hu hb (show n < 8 by omega) K3 r33 r34 ((i3 99 6).trans ((e99 6 (by decide)).trans h6)) hcp (by omega) (by omega) (by omega) he2.symm a6 _) (fun m hm => ?_)
            obtain ⟨z1, z2, z3, z4 | z4⟩ := hm
            · obtain ⟨w1, w2, w3, w4, w5, w6, w7, w8⟩ := z4
              have a7 := spn_ge isBl b e2
              refine Or.inr ⟨_, _, by omega, by rw [if_pos w1], ⟨by omega, by omega, fun i hi => ?_, c3⟩, w3, w4, by omega, w5, w6, w7, w8, w2.trans ((i3 99 7).trans ((e99 7 (by decide)).trans h77)), z2, (f3.mono (fun c hc => hc.1)).tr z1⟩
              rw [wrd_get (by omega)]
              exact spn_all he2 (by omega)
            · obtain ⟨w1, w2, w3, w4, w5, w6⟩ := z4
              have g9 : rdG u μ m3 := ⟨f3.mono (fun c hc => hc.1), r33.trans h3.symm⟩
              exact Or.inl ⟨_, by rw [if_neg w1], w2, w3, w4, w5, g9.tr w6⟩
          refine zok_if (fun c4 => ?_) (fun c4 => ?_)
          · rw [r33, r34]
            have e16 : zI m3 (u + 4 + 11 * zx ((n : Int) - 1)) 16 = c := by
              rw [show zx ((n : Int) - 1) = n - 1 from by show (_ : Int).toNat = _; omega, i3, eO _ (by
                have ⟨ht', _⟩ := lib_f hu (show n - 1 < 8 by omega)
                have := okT_5 _ ht'.2 ht'.1
                omega)]
              exact N3 (by omega)
            rw [e16]
            exact zok_gd ⟨by omega, by rw [zln_lib hu]; omega⟩ main
          · rw [r34]
            have hc0 : c = 0 := N2 (by omega)
            rw [hc0] at main ⊢
            exact main
        · rw [if_pos c3]
          exact zok_cm (c_failL K2 (by omega) P2'.g (by decide)) (fun m3 h3 => zok_some (Or.inl ⟨_, rfl, h3⟩))
    · rw [if_pos (show e2 = q ∨ 8 < e2 - q by omega)]
      exact zok_mono bad (fun m3 h3 => Or.inl ⟨_, rfl, h3⟩)
  · rw [if_pos (show n = 8 by omega), K.2.2.1]
    exact zok_cm (c_failL K (by omega) rdG.rf (by decide)) (fun m3 h3 => zok_some (Or.inl ⟨_, rfl, h3⟩))
end hd3
