/-! THE REFERENCE'S READER: a whole body -/
section mbody
variable {b : List Int} {bb k n p q d o nn : Nat} {μ m m' : zM} {S : zSn} {st : List Nat} {v : Int} {f j : Nat}
theorem n_readOcc (hb : okB bb) (hk : k < 8) (hby : byB b) (h : rdM b bb k n μ (p + 1) S st) (hp : p < b.length) (h1 : ¬ (bt b (p + 1) = 36 ∨ bt b (p + 1) = 125)) : zok (f7_readOccurrence (p : Nat) μ) (nAns b bb k n μ (bDol b p S st)) := by
  have h7 := hby.1
  have hq := bt_r hby (p + 1)
  unfold f7_readOccurrence
  rw [h.2.2.1]
  refine zok_co (n_byteAt hby h.1 (p + 1)) (fun r er => ?_)
  subst er
  by_cases c : bt b (p + 1) = 123
  · have es : bDol b p S st = bDig b p (p + 2) true S st := by unfold bDol; rw [if_neg h1, if_pos c]
    rw [es]
    refine zok_t c ?_
    unfold f7_readOccurrence_18
    rw [h.2.2.1]
    exact zok_f (by decide) (n_33 (q := p + 2) (d := p) hb hk hby h (by omega) (by omega) (by omega) true)
  · have es : bDol b p S st = bDig b p (p + 1) false S st := by unfold bDol; rw [if_neg h1, if_neg c]
    rw [es]
    refine zok_f c ?_
    unfold f7_readOccurrence_18
    rw [h.2.2.1]
    exact zok_t rfl (n_33 (q := p + 1) (d := p) hb hk hby h (by omega) (by omega) (by omega) false)
/-- what a body read leaves -/
def mOut (b : List Int) (bb k n : Nat) (μ : zM) (s : zBs) (r : Bool × zM) : Prop := (∃ e, bRd b s (.inl e) ∧ r.1 = false ∧ mEr bb k n μ e r.2) ∨ ∃ p S, bRd b s (.inr (p, S)) ∧ r.1 = true ∧ rdM b bb k n r.2 p S [] ∧ rfM bb k n μ r.2
theorem rdM.shut {r : List Nat} (hb : okB bb) (h : rdM b bb k n μ p S (q :: r)) (hp : p < b.length) (hby : byB b) (hn : zI μ 292 20 = (nn : Nat)) : rdM b bb k n (zsI (zsI (zsI (zsI (zsI μ 292 14 ((p : Int) + 1)) 292 19 (r.length : Int)) (bb + 11) (60 * k + q) (nn : Nat)) (bb + 4) nn 2000) 292 20 ((nn : Int) + 1)) (p + 1) S r ∧ rfM bb k n μ (zsI (zsI (zsI (zsI (zsI μ 292 14 ((p : Int) + 1)) 292 19 (r.length : Int)) (bb + 11) (60 * k + q) (nn : Nat)) (bb + 4) nn 2000) 292 20 ((nn : Int) + 1)) := by
  have h7 := hby.1
  have h0 := h.2.2.2.2.2.2.1
  have hg := h.go (p' := p + 1) (v := (p : Int) + 1) hb (Nat.le_succ p) (by omega) (by omega)
  have F0 : rfM bb k n μ (zsI μ 292 14 ((p : Int) + 1)) := rfM.s hb (by decide) (by decide) _
  have hn1 : zI (zsI μ 292 14 ((p : Int) + 1)) 292 20 = (nn : Nat) := (zI_ni (by decide)).trans hn
  generalize zsI μ 292 14 ((p : Int) + 1) = m1 at *
  obtain ⟨k1, k2, k3, k4, k5, k6, k7, k8, k9⟩ := hg
  have F : rfM bb k n m1 (zsI (zsI (zsI (zsI m1 292 19 (r.length : Int)) (bb + 11) (60 * k + q) (nn : Nat)) (bb + 4) nn 2000) 292 20 ((nn : Int) + 1)) := (((rfM.s hb (by decide) (by decide) _).tr (rfM.row hb (by decide) (by decide) (by rw [mlo_60 (by decide) (by decide)]; omega) _)).tr (rfM.row (j := 4) hb (by decide) (by decide) (by rw [mlo_4]; omega) _)).tr (rfM.s hb (by decide) (by decide) _)
  have hn4 := b_ne hb (show 4 ≤ 13 by decide)
  have hn11 := b_ne hb (show 11 ≤ 13 by decide)
  have e : ∀ i, i ≠ 19 → i ≠ 20 → zI (zsI (zsI (zsI (zsI m1 292 19 (r.length : Int)) (bb + 11) (60 * k + q) (nn : Nat)) (bb + 4) nn 2000) 292 20 ((nn : Int) + 1)) 292 i = zI m1 292 i := fun i h1 h2 => by rw [zI_ni h2, zI_nk (fun e => hn4.1 e.symm), zI_nk (fun e => hn11.1 e.symm), zI_ni h1]
  exact ⟨⟨F.kb hb k1, (F.2.1 13).trans k2, (e 14 (by decide) (by decide)).trans k3, (F.2.2.2.1 0 (by decide)).trans k4, ⟨(e 11 (by decide) (by decide)).trans k5.1, (e 12 (by decide) (by decide)).trans k5.2⟩, k6.shut hb k8 hn1 (by omega), by rw [zI_eq rfl rfl]; omega, k8.pop, k9⟩, F0.tr F⟩
theorem n_readBody (hb : okB bb) (hk : k < 8) (hby : byB b) (h : rdM b bb k n (zsI μ 292 19 0) p S []) : zok (f7_readBody μ) (mOut b bb k n μ (p, S, [])) := by
  have h7 := hby.1
  obtain ⟨-, -, -, -, -, -, -, -, -, -, z11, -, -⟩ := okB_f hb
  have z328 := zl_m.2.2.2.2.2.2.2.1
  unfold f7_readBody
  have F0 : rfM bb k n μ (zsI μ 292 19 0) := rfM.s hb (by decide) (by decide) _
  refine zok_lt (zok_x2 (fun (x1 : Int) m => (x1 = 1 ∧ ∃ p' S' st', rdM b bb k n m p' S' st' ∧ rfM bb k n μ m ∧ ∀ r, bRd b (p', S', st') r → bRd b (p, S, []) r) ∨ (x1 = 0 ∧ ∃ p' S', bRd b (p, S, []) (.inr (p', S')) ∧ rdM b bb k n m p' S' [] ∧ rfM bb k n μ m)) (fun x1 m => if x1 = 0 then 0 else 800 - (zI m 292 14).toNat) (fun kk x1 m hx ih => ?_) zFu 1 _ (Or.inl ⟨rfl, p, S, [], h, F0, fun r hr => hr⟩) (by show (if (1 : Int) = 0 then 0 else 800 - _) < 100000; rw [if_neg (by decide)]; omega))
  unfold f7_readBody_7
  rcases hx with ⟨rfl, p', S', st', z1, z2, z4⟩ | ⟨rfl, p', S', z1, z2, z3⟩
  · have zl := z1.2.2.2.2.2.2.2.2
    have e14 := z1.2.2.1
    have hq := bt_r hby p'
    have ms : ∀ m' : zM, ∀ p'' : Nat, zI m' 292 14 = p'' → p' < p'' → p'' ≤ 702 → (if (1 : Int) = 0 then 0 else 800 - (zI m' 292 14).toNat) < (if (1 : Int) = 0 then 0 else 800 - (zI m 292 14).toNat) := fun m' p'' h1 h2 h3 => by
      rw [if_neg (by decide), if_neg (by decide), h1, e14]; omega
    have mz : ∀ m' : zM, (if (0 : Int) = 0 then 0 else 800 - (zI m' 292 14).toNat) < (if (1 : Int) = 0 then 0 else 800 - (zI m 292 14).toNat) := fun m' => by
      rw [if_pos rfl, if_neg (by decide), e14]; omega
    refine zok_f (by decide) ?_
    rw [e14]
    refine zok_co (n_byteAt hby z1.1 p') (fun r er => ?_)
    subst er
    refine zok_if (fun c1 => ?_) (fun c1 => zok_if (fun c2 => ?_) (fun c2 => ?_))
    · have hin : p' < b.length := by omega
      have g19 : zI (zsI m 292 14 ((p' : Int) + 1)) 292 19 = st'.length := (zI_ni (by decide)).trans z1.2.2.2.2.2.1.2.2.2.2.2.2.1.1
      refine zok_gl ⟨by omega, by omega⟩ (zok_lt ?_)
      rw [g19]
      cases st' with
      | nil =>
        refine zok_t (Int.le_refl _) ?_
        unfold f7_readBody_48
        have g1 := z1.go (p' := p' + 1) (v := (p' : Int) + 1) hb (Nat.le_succ p') (by omega) (by omega)
        have g2 : rfM bb k n m (zsI m 292 14 ((p' : Int) + 1)) := rfM.s hb (by decide) (by decide) _
        exact zok_t rfl (ih _ _ (Or.inr ⟨rfl, p' + 1, S', z4 _ (bRd.fin (by unfold bStp; rw [if_pos c1])), g1, z2.tr g2⟩) (mz _))
      | cons x r =>
        have hcx := z1.2.2.2.2.2.2.2.1
        have hxN : x < sN S' := hcx.2.1.1
        have h60 := hcx.1.1
        have hl4 := hcx.2.2.1
        rw [List.length_cons] at hl4
        have h20 := z1.2.2.2.2.2.2.1
        obtain ⟨nn, hn⟩ : ∃ nn : Nat, zI m 292 20 = nn := ⟨(zI m 292 20).toNat, by omega⟩
        have kst : zI m 328 r.length = (x : Nat) := z1.2.2.2.2.2.1.2.2.2.2.2.2.1.2.1
        obtain ⟨g1, g2⟩ := z1.shut hb hin hby hn
        have k2 := z1.2.1
        have k4 := z1.2.2.2.1
        have bn : ∀ j, j ≤ 13 → 292 ≠ bb + j := fun j hj e => (b_ne hb hj).1 e.symm
        have hbb0 : bb ≠ 292 := (b_ne hb (show 0 ≤ 13 by decide)).1
        refine zok_f (by rw [List.length_cons]; omega) ?_
        unfold f7_readBody_48
        rw [g19]
        refine zok_f (by decide) (zok_gl ⟨by rw [List.length_cons]; omega, by rw [List.length_cons]; omega⟩ (zok_lt ?_))
        rw [show ((x :: r).length : Int) - 1 = (r.length : Int) by rw [List.length_cons]; omega]
        have r1 : ∀ (μ : zM) (k i : Nat) (v : Int), zR (zsI μ k i v) 292 13 = zR μ 292 13 := fun _ _ _ _ => rfl
        simp only [r1, k2]
        rw [zI_nk hbb0, zI_nk hbb0, k4, zI_eq (a := 292) (b := 19) rfl rfl, zx_nat, zI_nk (show 328 ≠ 292 by decide), zI_nk (show 328 ≠ 292 by decide), kst, z11, z328]
        refine zok_gl ⟨by omega, by omega⟩ (zok_gd ⟨by omega, by omega⟩ (zok_gl ⟨by omega, by omega⟩ (zok_gd ⟨by omega, by omega⟩ (zok_lt ?_))))
        rw [show zx (60 * ((k : Nat) : Int) + ((x : Nat) : Int)) = 60 * k + x from by show (_ : Int).toNat = _; omega, zI_ni (show (20 : Nat) ≠ 19 by decide), zI_ni (show (20 : Nat) ≠ 14 by decide), hn]
        refine zok_cm (n_item (n := nn) (μ := zsI (zsI (zsI m 292 14 ((p' : Int) + 1)) 292 19 (r.length : Int)) (bb + 11) (60 * k + x) (nn : Nat)) hb k2 ?_ (by omega) 2000) (fun m' em => ?_)
        · rw [zI_nk (bn 11 (by decide)), zI_ni (show (20 : Nat) ≠ 19 by decide), zI_ni (show (20 : Nat) ≠ 14 by decide), hn]
        · rw [← em] at g1 g2
          exact ih _ _ (Or.inl ⟨rfl, p' + 1, S', r, g1, z2.tr g2, fun r' hr' => z4 _ (bRd.step (by unfold bStp; rw [if_pos c1]) hr')⟩) (ms _ (p' + 1) g1.2.2.1 (by omega) (by omega))
    · have hin : p' < b.length := by omega
      have hq1 := bt_r hby (p' + 1)
      have es : bStp b p' S' st' = bGo (bDol b p' S' st') := by unfold bStp; rw [if_neg c1, if_pos c2]
      have g1 := z1.go (p' := p' + 1) (v := (p' : Int) + 1) hb (Nat.le_succ p') (by omega) (by omega)
      have g2 : rfM bb k n m (zsI m 292 14 ((p' : Int) + 1)) := rfM.s hb (by decide) (by decide) _
      refine zok_gl ⟨by omega, by omega⟩ (zok_lt ?_)
      generalize zsI m 292 14 ((p' : Int) + 1) = m1 at *
      rw [g1.2.2.1]
      refine zok_co (n_byteAt hby g1.1 (p' + 1)) (fun r er => ?_)
      subst er
      have esc : (bt b (p' + 1) = 36 ∨ bt b (p' + 1) = 125) → zok (f7_readBody_142 kk 1 (bt b (p' + 1)) m1) (mOut b bb k n μ (p, S, [])) := fun c => by
        have ed : bDol b p' S' st' = .inr (p' + 2, adL S' (opn st') (bt b (p' + 1)), st') := by unfold bDol; rw [if_pos c]
        unfold f7_readBody_142
        refine n_put hb hby g1 (by omega) (by omega) (by omega) (fun m2 y1 y2 => ih _ _ (Or.inl ⟨rfl, p' + 2, _, st', y1, (z2.tr g2).tr y2, fun r' hr' => z4 _ (bRd.step (by rw [es, ed]; rfl) hr')⟩) (ms _ (p' + 2) y1.2.2.1 (by omega) (by omega)))
      refine zok_if (fun c3 => esc (Or.inl c3)) (fun c3 => zok_if (fun c4 => esc (Or.inr c4)) (fun c4 => zok_gl ⟨by omega, by omega⟩ ?_))
      rw [show ((p' + 1 : Nat) : Int) - 1 = (p' : Nat) by omega]
      refine zok_cl (n_readOcc hb hk hby g1 hin (fun e => e.elim c3 c4)) (fun x m2 hx => ?_)
      cases hr : bDol b p' S' st' with
      | inl e =>
        rw [hr] at hx es
        have hx1 : x = false := hx.1
        rw [hx1]
        exact zok_t rfl (zok_some (Or.inl ⟨e, z4 _ (bRd.err es), rfl, hx.2.1, hx.2.2.1, hx.2.2.2.1, (z2.tr g2).tr hx.2.2.2.2⟩))
      | inr s =>
        have hgo := bDol_go b hby p' S' st' hr
        rw [hr] at hx es
        have hx1 : x = true := hx.1
        rw [hx1]
        have hsl := hx.2.1.2.2.2.2.2.2.2.2
        exact zok_f (by decide) (ih _ _ (Or.inl ⟨rfl, s.1, s.2.1, s.2.2, hx.2.1, (z2.tr g2).tr hx.2.2, fun r' hr' => z4 _ (bRd.step es hr')⟩) (ms _ s.1 hx.2.1.2.2.1 (by omega) (by omega)))
    · have lit : (bt b p' = 10 ∨ (32 ≤ bt b p' ∧ bt b p' ≤ 126)) → zok (f7_readBody_195 kk 1 (bt b p') m) (mOut b bb k n μ (p, S, [])) := fun c => by
        have es : bStp b p' S' st' = .inr (.inr (p' + 1, adL S' (opn st') (bt b p'), st')) := by unfold bStp; rw [if_neg c1, if_neg c2, if_pos c]
        unfold f7_readBody_195
        exact n_put hb hby z1 (by omega) (by omega) (by omega) (fun m2 y1 y2 => ih _ _ (Or.inl ⟨rfl, p' + 1, _, st', y1, z2.tr y2, fun r' hr' => z4 _ (bRd.step es hr')⟩) (ms _ (p' + 1) y1.2.2.1 (by omega) (by omega)))
      refine zok_if (fun c3 => lit (Or.inl c3)) (fun c3 => ?_)
      rw [win_eq, zco_s]
      by_cases c4 : 32 ≤ bt b p' ∧ bt b p' ≤ 126
      · rw [decide_eq_true c4]
        exact zok_f (by decide) (lit (Or.inr c4))
      · have es : bStp b p' S' st' = .inl (1, (p' : Int)) := by unfold bStp; rw [if_neg c1, if_neg c2, if_neg (fun e => e.elim c3 c4)]
        rw [decide_eq_false c4]
        exact zok_t rfl (zok_cl (n_fail hb z1.2.2.2.2.1.1 (by decide) _ z2) (fun x m2 hx => zok_some (Or.inl ⟨_, z4 _ (bRd.err es), hx.1, hx.2⟩)))
  · exact zok_t rfl (zok_some (Or.inr ⟨p', S', z1, rfl, z2, z3⟩))
end mbody
