/-! THE REFERENCE'S READER: an occurrence, 2 -/
section occ
variable {b : List Int} {bb k n p q d o nn : Nat} {μ m m' : zM} {S : zSn} {st : List Nat} {v : Int} {f j : Nat}
/-- the rows of a new occurrence, but for what depends -/
def occM (μ : zM) (bb k N nn len : Nat) (f par : Int) : zM := zsI (zsI (zsI (zsI (zsI (zsI (zsI (zsI μ (bb + 5) k ((N : Int) + 1)) (bb + 6) (60 * k + N) f) (bb + 7) (60 * k + N) 0) (bb + 8) (60 * k + N) 0) (bb + 9) (60 * k + N) par) (bb + 10) (60 * k + N) (nn : Nat)) (bb + 11) (60 * k + N) (nn : Nat)) (bb + 12) (60 * k + N) (len : Nat)
theorem occM_o {N len : Nat} {f par : Int} {c : Nat} (h : c < bb + 5 ∨ bb + 12 < c) (i : Nat) : zI (occM μ bb k N nn len f par) c i = zI μ c i := by
  unfold occM
  rw [zI_nk (by omega), zI_nk (by omega), zI_nk (by omega), zI_nk (by omega), zI_nk (by omega), zI_nk (by omega), zI_nk (by omega), zI_nk (by omega)]
theorem occM_i {N len : Nat} {f par : Int} (h1 : 6 ≤ j) (h2 : j ≤ 12) {i : Nat} (hi : i ≠ 60 * k + N) : zI (occM μ bb k N nn len f par) (bb + j) i = zI μ (bb + j) i := by
  unfold occM
  rw [zI_ni hi, zI_ni hi, zI_ni hi, zI_ni hi, zI_ni hi, zI_ni hi, zI_ni hi, zI_nk (by omega)]
theorem occM_v {N len : Nat} {f par : Int} : zI (occM μ bb k N nn len f par) (bb + 5) k = (N : Int) + 1 ∧ zI (occM μ bb k N nn len f par) (bb + 6) (60 * k + N) = f ∧ zI (occM μ bb k N nn len f par) (bb + 7) (60 * k + N) = 0 ∧ zI (occM μ bb k N nn len f par) (bb + 8) (60 * k + N) = 0 ∧ zI (occM μ bb k N nn len f par) (bb + 9) (60 * k + N) = par ∧ zI (occM μ bb k N nn len f par) (bb + 10) (60 * k + N) = (nn : Nat) ∧ zI (occM μ bb k N nn len f par) (bb + 11) (60 * k + N) = (nn : Nat) ∧ zI (occM μ bb k N nn len f par) (bb + 12) (60 * k + N) = (len : Nat) := by
  unfold occM
  refine ⟨?_, ?_, ?_, ?_, ?_, ?_, ?_, ?_⟩
  · rw [zI_nk (by omega), zI_nk (by omega), zI_nk (by omega), zI_nk (by omega), zI_nk (by omega), zI_nk (by omega), zI_nk (by omega), zI_eq rfl rfl]
  · rw [zI_nk (by omega), zI_nk (by omega), zI_nk (by omega), zI_nk (by omega), zI_nk (by omega), zI_nk (by omega), zI_eq rfl rfl]
  · rw [zI_nk (by omega), zI_nk (by omega), zI_nk (by omega), zI_nk (by omega), zI_nk (by omega), zI_eq rfl rfl]
  · rw [zI_nk (by omega), zI_nk (by omega), zI_nk (by omega), zI_nk (by omega), zI_eq rfl rfl]
  · rw [zI_nk (by omega), zI_nk (by omega), zI_nk (by omega), zI_eq rfl rfl]
  · rw [zI_nk (by omega), zI_nk (by omega), zI_eq rfl rfl]
  · rw [zI_nk (by omega), zI_eq rfl rfl]
  · rw [zI_eq rfl rfl]
theorem occM_F (hb : okB bb) {N len : Nat} {f par : Int} : rfM bb k n μ (occM μ bb k N nn len f par) := by
  unfold occM
  have r : ∀ {μ : zM} (j : Nat), 6 ≤ j → j ≤ 12 → ∀ v, rfM bb k n μ (zsI μ (bb + j) (60 * k + N) v) := fun j h1 h2 v => rfM.row hb (by omega) (by omega) (by rw [mlo_60 h1 h2]; omega) v
  exact (((((((rfM.row (j := 5) hb (by decide) (by decide) (by rw [mlo_5]; omega) _).tr (r 6 (by decide) (by decide) _)).tr (r 7 (by decide) (by decide) _)).tr (r 8 (by decide) (by decide) _)).tr (r 9 (by decide) (by decide) _)).tr (r 10 (by decide) (by decide) _)).tr (r 11 (by decide) (by decide) _)).tr (r 12 (by decide) (by decide) _)
/-- behind the rows: what depends, the item, and what follows -/
theorem n_occ (hb : okB bb) (hk : k < 8) (hby : byB b) {M : zM} (h : rdM b bb k n M q S st) (hq : q ≤ b.length) (hN : sN S < 60) (hf : f < 10) (ht : tbk S st f = false) (hn : zI M 292 20 = (nn : Nat)) (hnq : nn < q) (w : Bool) : zok (zcm (f7_dependsOn (f : Nat) (occM M bb k (sN S) nn st.length (f : Nat) (opn st))) (fun m14 => zgl (1000 + (sN S : Int)) (fun v10 => zcm (f7_item v10 m14) (fun m15 => (if zb w = 0 then (some (true, m15)) else zcl2 (f7_readRest (d : Nat) (60 * ((k : Nat) : Int) + ((sN S : Nat) : Int)) (sN S : Nat) m15) (fun r8 m16 => (if (zb r8) = 0 then (some (false, m16)) else (some (true, m16))))))))) (nAns b bb k n M (if w = false then .inr (q, adO S (opn st) f, st) else bBeh b d q (adO S (opn st) f) (sN S) st)) := by
  have h7 := hby.1
  obtain ⟨k1, k2, k3, k4, k5, k6, k7, k8, k9⟩ := h
  rw [hn] at k7
  have hW := k8.1
  have hc := k8.2.1
  obtain ⟨v5, v6, v7, v8, v9, v10, v11, v12⟩ := @occM_v bb k nn M (sN S) st.length (f : Nat) (opn st)
  have hF := @occM_F bb k n nn M hb (sN S) st.length (f : Nat) (opn st)
  have ho : ∀ c, (c < bb + 5 ∨ bb + 12 < c) → ∀ i, zI (occM M bb k (sN S) nn st.length (f : Nat) (opn st)) c i = zI M c i := fun c hc i => occM_o hc i
  have hi : ∀ j, 6 ≤ j → j ≤ 12 → ∀ i, i ≠ 60 * k + sN S → zI (occM M bb k (sN S) nn st.length (f : Nat) (opn st)) (bb + j) i = zI M (bb + j) i := fun j h1 h2 i h3 => occM_i h1 h2 h3
  generalize occM M bb k (sN S) nn st.length (f : Nat) (opn st) = m13 at *
  have hbb := hb
  have n292 : ∀ i, zI m13 292 i = zI M 292 i := ho 292 (by rcases hbb with rfl | rfl <;> omega)
  have n328 : ∀ i, zI m13 328 i = zI M 328 i := ho 328 (by rcases hbb with rfl | rfl <;> omega)
  have HD : mHd m13 bb k S st := ⟨hb, hk, (hF.2.1 13).trans k2, (hF.2.2.2.1 0 (by decide)).trans k4, (n292 19).trans k6.2.2.2.2.2.2.1.1, stR_lo (fun i _ => n328 i) k6.2.2.2.2.2.2.1.2, fun o ho => (hi 6 (by decide) (by decide) _ (by omega)).trans (k6.2.2.2.1 o ho).1, fun g hg => (ho (bb + 13) (by omega) _).trans (k6.2.2.2.2.1 g hg), hW, hc, k8.2.2.1⟩
  refine zok_cm (n_dependsOn HD hf ht) (fun m14 h14 => zok_gl ⟨by omega, by omega⟩ ?_)
  obtain ⟨s1, s2, s3⟩ := h14
  have e14 : ∀ c, c ≠ bb + 13 → ∀ i, zI m14 c i = zI m13 c i := fun c hc i => (s1 c hc i).1
  have hne := b_ne hb (show 13 ≤ 13 by decide)
  have hne4 := b_ne hb (show 4 ≤ 13 by decide)
  have F14 : rfM bb k n m13 m14 := ⟨s1.mono (fun c hc => by omega), fun i => (s1 292 (fun e => hne.1 e.symm) i).2.2, fun i _ => e14 292 (fun e => hne.1 e.symm) i, fun i _ => e14 bb (by omega) i, fun j g1 g2 i hi => by
    by_cases e : j = 13
    · subst e; rw [mlo_13] at hi; exact s2 i hi
    · exact e14 _ (by omega) i⟩
  have n14 : zI m14 292 20 = (nn : Nat) := (e14 292 (fun e => hne.1 e.symm) 20).trans ((n292 20).trans hn)
  refine zok_cm (n_item hb ((F14.2.1 13).trans HD.2.2.1) n14 (by omega) _) (fun m15 e15 => ?_)
  have F15 : rfM bb k n M m15 := by
    rw [e15]
    exact (hF.tr F14).tr ((rfM.row (j := 4) hb (by decide) (by decide) (by rw [mlo_4]; omega) _).tr (rfM.s hb (by decide) (by decide) _))
  have o15 : ∀ c, c ≠ bb + 13 → c ≠ bb + 4 → c ≠ 292 → ∀ i, zI m15 c i = zI m13 c i := fun c c1 c2 c3 i => by rw [e15, zI_nk c3, zI_nk c2, e14 c c1]
  have i15 : ∀ i, i ≠ 20 → zI m15 292 i = zI M 292 i := fun i hi => by rw [e15, zI_ni hi, zI_nk (fun e => hne4.1 e.symm), e14 292 (fun e => hne.1 e.symm), n292]
  have e20 : zI m15 292 20 = (nn : Int) + 1 := by rw [e15, zI_eq rfl rfl]
  have g13 : ∀ i, zI m15 (bb + 13) i = zI m14 (bb + 13) i := fun i => by rw [e15, zI_nk hne.1, zI_nk (by omega)]
  have bn : ∀ j, j ≤ 13 → bb + j ≠ 292 := fun j hj => (b_ne hb hj).1
  have c15 : mC m15 bb k (adO S (opn st) f) st := by
    refine k6.occ (f := f) k8 hn (by omega) (fun j j1 j2 i => ?_) ?_ (fun j j1 j2 i hi' => ?_) ?_ ?_ ?_ ?_ ?_ ?_ ?_ (fun g hg => ?_) (fun i hi => ?_) ?_ e20 (i15 19 (by decide)) (fun i => ?_)
    · rw [o15 _ (by omega) (by omega) (bn j (by omega)), ho _ (by omega)]
    · rw [o15 _ (by omega) (by omega) (bn 5 (by decide)), v5]
    · rw [o15 _ (by omega) (by omega) (bn j (by omega)), hi j j1 j2 i hi']
    · rw [o15 _ (by omega) (by omega) (bn 6 (by decide)), v6]
    · rw [o15 _ (by omega) (by omega) (bn 7 (by decide)), v7]
    · rw [o15 _ (by omega) (by omega) (bn 8 (by decide)), v8]
    · rw [o15 _ (by omega) (by omega) (bn 9 (by decide)), v9]
    · rw [o15 _ (by omega) (by omega) (bn 10 (by decide)), v10]
    · rw [o15 _ (by omega) (by omega) (bn 11 (by decide)), v11]
    · rw [o15 _ (by omega) (by omega) (bn 12 (by decide)), v12]
    · rw [g13, s3 g hg]
    · rw [e15, zI_nk hne4.1, zI_ni (by omega), e14 _ (by omega), ho _ (by omega)]
    · rw [e15, zI_nk hne4.1, zI_eq rfl rfl]
    · rw [o15 328 (fun e => hne.2.2 e.symm) (fun e => hne4.2.2 e.symm) (by decide), n328]
  have R15 : rdM b bb k n m15 q (adO S (opn st) f) st := ⟨F15.kb hb k1, (F15.2.1 13).trans k2, (i15 14 (by decide)).trans k3, (F15.2.2.2.1 0 (by decide)).trans k4, ⟨(i15 11 (by decide)).trans k5.1, (i15 12 (by decide)).trans k5.2⟩, c15, by rw [e20]; omega, k8.occ hN hf ht, k9⟩
  cases w with
  | false => exact zok_t rfl (zok_some ⟨rfl, R15, F15⟩)
  | true =>
    rw [show (if (true : Bool) = false then (.inr (q, adO S (opn st) f, st) : zEr ⊕ zBs) else bBeh b d q (adO S (opn st) f) (sN S) st) = bBeh b d q (adO S (opn st) f) (sN S) st from if_neg (by decide)]
    obtain ⟨n1, n2, n3, n4⟩ := adO_new k8 f
    have eB : sB (adO S (opn st) f) (opn st) = sB S (opn st) ++ [-(sN S : Int) - 1] := if_pos rfl
    refine zok_f (by decide) (zok_cl (n_readRest (d := d) hb hk hby R15 rfl n1 n2 n3 n4 ⟨_, eB⟩ ?_) (fun r m hr => ?_))
    · rw [o15 _ (by omega) (by omega) (bn 10 (by decide)), v10, e20]
    · have hr2 := hr.fr F15
      cases r with
      | false => exact zok_t rfl (zok_some hr2)
      | true => exact zok_f (by decide) (zok_some hr2)
theorem n_229 (hb : okB bb) (hk : k < 8) (hby : byB b) {M : zM} (h : rdM b bb k n M q S st) (hq : q ≤ b.length) (hN : sN S < 60) (hf : f < 10) (ht : tbk S st f = false) (hn : zI M 292 20 = (nn : Nat)) (hnq : nn < q) (w : Bool) : zok (f7_readOccurrence_229 (d : Nat) (zb w) (f : Nat) (sN S : Nat) (60 * ((k : Nat) : Int) + ((sN S : Nat) : Int)) (opn st) (60 * ((k : Nat) : Int) + ((sN S : Nat) : Int)) (bb + 9) (zsI (zsI (zsI (zsI M (bb + 5) k (((sN S : Nat) : Int) + 1)) (bb + 6) (60 * k + sN S) (f : Nat)) (bb + 7) (60 * k + sN S) 0) (bb + 8) (60 * k + sN S) 0)) (nAns b bb k n M (if w = false then .inr (q, adO S (opn st) f, st) else bBeh b d q (adO S (opn st) f) (sN S) st)) := by
  have hx : zx (60 * ((k : Nat) : Int) + ((sN S : Nat) : Int)) = 60 * k + sN S := by show (_ : Int).toNat = _; omega
  obtain ⟨-, -, -, -, -, -, -, -, z9, z10, z11, z12, -⟩ := okB_f hb
  have hM := n_occ (d := d) hb hk hby h hq hN hf ht hn hnq w
  have k2 := h.2.1
  have k19 : zI M 292 19 = st.length := h.2.2.2.2.2.1.2.2.2.2.2.2.1.1
  have bn : ∀ j, j ≤ 13 → 292 ≠ bb + j := fun j hj e => (b_ne hb hj).1 e.symm
  unfold occM at hM
  unfold f7_readOccurrence_229
  rw [z9, hx]
  refine zok_gd ⟨by omega, by omega⟩ (zok_lt ?_)
  have r1 : ∀ (μ : zM) (k i : Nat) (v : Int), zR (zsI μ k i v) 292 13 = zR μ 292 13 := fun _ _ _ _ => rfl
  simp only [r1, k2]
  rw [z10, zI_nk (bn 9 (by decide)), zI_nk (bn 8 (by decide)), zI_nk (bn 7 (by decide)), zI_nk (bn 6 (by decide)), zI_nk (bn 5 (by decide)), hn]
  refine zok_gd ⟨by omega, by omega⟩ (zok_lt ?_)
  simp only [r1, k2]
  rw [z11, zI_nk (bn 10 (by decide)), zI_nk (bn 9 (by decide)), zI_nk (bn 8 (by decide)), zI_nk (bn 7 (by decide)), zI_nk (bn 6 (by decide)), zI_nk (bn 5 (by decide)), hn]
  refine zok_gd ⟨by omega, by omega⟩ (zok_lt ?_)
  simp only [r1, k2]
  rw [z12, zI_nk (bn 11 (by decide)), zI_nk (bn 10 (by decide)), zI_nk (bn 9 (by decide)), zI_nk (bn 8 (by decide)), zI_nk (bn 7 (by decide)), zI_nk (bn 6 (by decide)), zI_nk (bn 5 (by decide)), k19]
  refine zok_gd ⟨by omega, by omega⟩ (zok_lt ?_)
  exact hM
theorem n_33 (hb : okB bb) (hk : k < 8) (hby : byB b) (h : rdM b bb k n μ p S st) {s0 s1 : Int} (hs : s1 + s0 = (q : Nat)) (hpq : p ≤ q) (hq : q ≤ b.length) (w : Bool) : zok (f7_readOccurrence_33 (d : Nat) (zb w) s0 s1 μ) (nAns b bb k n μ (bDig b d q w S st)) := by
  have h7 := hby.1
  have hbq := bt_r hby q
  obtain ⟨-, -, -, -, z5, z6, z7, z8, -, -, -, -, -⟩ := okB_f hb
  have z328 := zl_m.2.2.2.2.2.2.2.1
  have bn : ∀ j, j ≤ 13 → 292 ≠ bb + j := fun j hj e => (b_ne hb hj).1 e.symm
  have bs : ∀ j, j ≤ 13 → 328 ≠ bb + j := fun j hj e => (b_ne hb hj).2.2 e.symm
  have g1 := h.go hb hpq hq rfl
  have F1 : rfM bb k n μ (zsI μ 292 14 (q : Nat)) := rfM.s hb (by decide) (by decide) _
  unfold f7_readOccurrence_33
  rw [hs]
  refine zok_gl ⟨by omega, by omega⟩ (zok_lt ?_)
  generalize zsI μ 292 14 (q : Nat) = m1 at *
  rw [g1.2.2.1]
  refine zok_co (n_byteAt hby g1.1 q) (fun r er => ?_)
  subst er
  rw [win_eq, zco_s]
  by_cases c : 48 ≤ bt b q ∧ bt b q ≤ 57
  · rw [decide_eq_true c]
    have g2 := g1.go (p' := q + 1) (v := (q : Int) + 1) hb (Nat.le_succ q) (by omega) (by omega)
    have F2 : rfM bb k n μ (zsI m1 292 14 ((q : Int) + 1)) := F1.tr (rfM.s hb (by decide) (by decide) _)
    have c20 : zI (zsI m1 292 14 ((q : Int) + 1)) 292 20 ≤ q := by rw [zI_ni (by decide)]; exact g1.2.2.2.2.2.2.1.2
    refine zok_f (by decide) (zok_gl ⟨by omega, by omega⟩ (zok_lt (zok_gl ⟨by omega, by omega⟩ ?_)))
    generalize zsI m1 292 14 ((q : Int) + 1) = M at *
    obtain ⟨f, hf⟩ : ∃ f : Nat, bt b q - 48 = f := ⟨(bt b q - 48).toNat, by omega⟩
    have hf10 : f < 10 := by omega
    have a3 : zI M (bb + 5) k = (sN S : Nat) := g2.2.2.2.2.2.1.2.2.1
    have hN := g2.2.2.2.2.2.2.2.1.1.1
    have h20 := g2.2.2.2.2.2.2.1
    obtain ⟨nn, hn⟩ : ∃ nn : Nat, zI M 292 20 = nn := ⟨(zI M 292 20).toNat, by omega⟩
    have k19 : zI M 292 19 = st.length := g2.2.2.2.2.2.1.2.2.2.2.2.2.1.1
    have kst : stR M st := g2.2.2.2.2.2.1.2.2.2.2.2.2.1.2
    have hl4 := g2.2.2.2.2.2.2.2.1.2.2.1
    rw [hf, g2.2.1, g2.2.2.2.1, zx_nat, z5, a3]
    refine zok_gd ⟨by omega, by omega⟩ (zok_lt (zok_co (n_turnsBack (g2.hd hb hk) hf10) (fun r er => ?_)))
    subst er
    cases ht : tbk S st f with
    | true =>
      have es : bDig b d q w S st = .inl (4, (d : Int)) := by unfold bDig; rw [if_neg (fun e => e c), hf, if_pos (show tbk S st ((f : Nat) : Int).toNat = true from ht)]
      rw [es]
      exact zok_f (by decide) (zok_cl (n_fail hb g2.2.2.2.2.1.1 (by decide) _ F2) (fun x m hx => zok_some hx))
    | false =>
      refine zok_t rfl (zok_if (fun c6 => ?_) (fun c6 => ?_))
      · have es : bDig b d q w S st = .inl (5, (d : Int)) := by unfold bDig; rw [if_neg (fun e => e c), hf, if_neg (show ¬ tbk S st ((f : Nat) : Int).toNat = true by rw [show ((f : Nat) : Int).toNat = f from rfl, ht]; decide), if_pos (by omega)]
        rw [es]
        exact zok_cl (n_fail hb g2.2.2.2.2.1.1 (by decide) _ F2) (fun x m hx => zok_some hx)
      · have es : bDig b d q w S st = if w = false then .inr (q + 1, adO S (opn st) f, st) else bBeh b d (q + 1) (adO S (opn st) f) (sN S) st := by unfold bDig; rw [if_neg (fun e => e c), hf, if_neg (show ¬ tbk S st ((f : Nat) : Int).toNat = true by rw [show ((f : Nat) : Int).toNat = f from rfl, ht]; decide), if_neg (by omega)]; rfl
        rw [es]
        refine zok_gl ⟨by omega, by omega⟩ (zok_gl ⟨by omega, by omega⟩ (zok_lt (zok_gd ⟨by omega, by omega⟩ ?_)))
        rw [zx_nat, a3]
        refine zok_gl ⟨by omega, by omega⟩ (zok_gd ⟨by omega, by omega⟩ (zok_lt ?_))
        have r1 : ∀ (μ : zM) (k i : Nat) (v : Int), zR (zsI μ k i v) 292 13 = zR μ 292 13 := fun _ _ _ _ => rfl
        simp only [r1, g2.2.1]
        rw [show zx (60 * ((k : Nat) : Int) + ((sN S : Nat) : Int)) = 60 * k + sN S from by show (_ : Int).toNat = _; omega, z6]
        refine zok_gd ⟨by omega, by omega⟩ (zok_lt ?_)
        simp only [r1, g2.2.1]
        rw [z7]
        refine zok_gd ⟨by omega, by omega⟩ (zok_lt ?_)
        simp only [r1, g2.2.1]
        rw [z8]
        refine zok_gd ⟨⟨by omega, by omega⟩, Or.inl trivial⟩ (zok_lt ?_)
        simp only [r1, g2.2.1]
        rw [zI_nk (bn 8 (by decide)), zI_nk (bn 7 (by decide)), zI_nk (bn 6 (by decide)), zI_nk (bn 5 (by decide)), k19]
        have N := n_229 (d := d) hb hk hby g2 (by omega) (by omega) hf10 ht hn (by omega) w
        refine zok_if (fun c9 => ?_) (fun c9 => zok_gl ⟨by omega, by omega⟩ (zok_gd ⟨by omega, by rw [z328]; omega⟩ ?_))
        · have : st = [] := List.eq_nil_of_length_eq_zero (by omega)
          subst this
          exact zok_mono N (fun r hr => hr.fr F2)
        · cases hst : st with
          | nil => exact absurd (by rw [hst]; rfl) c9
          | cons x r =>
            have e1 : opn st = (x : Nat) := by rw [hst]; rfl
            rw [hst] at kst
            have ex : zI M 328 (zx (((x :: r).length : Int) - 1)) = opn st := by
              rw [show zx (((x :: r).length : Int) - 1) = r.length from by show (_ : Int).toNat = _; rw [List.length_cons]; omega, e1]; exact kst.1
            rw [zI_nk (bs 8 (by decide)), zI_nk (bs 7 (by decide)), zI_nk (bs 6 (by decide)), zI_nk (bs 5 (by decide)), ex, ← hst]
            exact zok_mono N (fun r hr => hr.fr F2)
  · have es : bDig b d q w S st = .inl (1, (q : Int)) := by unfold bDig; rw [if_pos c]
    rw [decide_eq_false c, es]
    exact zok_t rfl (zok_cl (n_fail hb g1.2.2.2.2.1.1 (by decide) _ F1) (fun x m hx => zok_some hx))
end occ
