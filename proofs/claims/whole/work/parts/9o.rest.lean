/-! THE REFERENCE'S READER: an occurrence -/
def mlo (k n j : Nat) : Nat := if j = 4 then n else if j = 13 then 10 * k else if j = 1 then 8 * k else if j = 3 then (if k = 0 then 0 else k + 1) else if j = 2 ∨ j = 5 then k else 60 * k
def rfM (b k n : Nat) (μ m : zM) : Prop := zSm (fun c => c ≠ 292 ∧ c ≠ 328 ∧ (c < b ∨ b + 13 < c)) μ m ∧ (∀ i, zR m 292 i = zR μ 292 i) ∧ (∀ i, i < 11 ∨ 20 < i → zI m 292 i = zI μ 292 i) ∧ (∀ i, i < 2 → zI m b i = zI μ b i) ∧ ∀ j, 1 ≤ j → j ≤ 13 → ∀ i, i < mlo k n j → zI m (b + j) i = zI μ (b + j) i
def rdM (b : List Int) (bb k n : Nat) (μ : zM) (p : Nat) (S : zSn) (st : List Nat) : Prop := mdK b μ ∧ zR μ 292 13 = bb ∧ zI μ 292 14 = (p : Nat) ∧ zI μ bb 0 = (k : Nat) ∧ (zI μ 292 11 = 0 ∧ zI μ 292 12 = -1) ∧ mC μ bb k S st ∧ ((n : Int) ≤ zI μ 292 20 ∧ zI μ 292 20 ≤ p) ∧ wBu p S st ∧ p ≤ b.length
def mEr (b k n : Nat) (μ : zM) (e : zEr) (m : zM) : Prop := zI m 292 11 = e.1 ∧ zI m 292 12 = e.2 ∧ e.1 ≠ 0 ∧ rfM b k n μ m
def nAns (b : List Int) (bb k n : Nat) (μ : zM) : zEr ⊕ zBs → Bool × zM → Prop
  | .inl e, r => r.1 = false ∧ mEr bb k n μ e r.2
  | .inr s, r => r.1 = true ∧ rdM b bb k n r.2 s.1 s.2.1 s.2.2 ∧ rfM bb k n μ r.2
theorem zI_of {μ : zM} {k i a b : Nat} {v : Int} (h : a ≠ k ∨ b ≠ i) : zI (zsI μ k i v) a b = zI μ a b := by
  rcases h with h | h
  · exact zI_nk h
  · exact zI_ni h
section rest
variable {b : List Int} {bb k n p q d o nn : Nat} {μ m m' : zM} {S : zSn} {st : List Nat} {v : Int} {f j : Nat}
theorem mlo_4 : mlo k n 4 = n := if_pos rfl
theorem mlo_13 : mlo k n 13 = 10 * k := by unfold mlo; rw [if_neg (by decide), if_pos rfl]
theorem mlo_1 : mlo k n 1 = 8 * k := by unfold mlo; rw [if_neg (by decide), if_neg (by decide), if_pos rfl]
theorem mlo_3 : mlo k n 3 = if k = 0 then 0 else k + 1 := by unfold mlo; rw [if_neg (by decide), if_neg (by decide), if_neg (by decide), if_pos rfl]
theorem mlo_2 : mlo k n 2 = k := by unfold mlo; rw [if_neg (by decide), if_neg (by decide), if_neg (by decide), if_neg (by decide), if_pos (by decide)]
theorem mlo_5 : mlo k n 5 = k := by unfold mlo; rw [if_neg (by decide), if_neg (by decide), if_neg (by decide), if_neg (by decide), if_pos (by decide)]
theorem mlo_60 (h1 : 6 ≤ j) (h2 : j ≤ 12) : mlo k n j = 60 * k := by unfold mlo; rw [if_neg (by omega), if_neg (by omega), if_neg (by omega), if_neg (by omega), if_neg (by omega)]
theorem rfM.rf : rfM bb k n μ μ := ⟨zSm.rf, fun _ => rfl, fun _ _ => rfl, fun _ _ => rfl, fun _ _ _ _ _ => rfl⟩
theorem rfM.tr (h : rfM bb k n μ m) (h' : rfM bb k n m m') : rfM bb k n μ m' := ⟨h.1.tr h'.1, fun i => (h'.2.1 i).trans (h.2.1 i), fun i hi => (h'.2.2.1 i hi).trans (h.2.2.1 i hi), fun i hi => (h'.2.2.2.1 i hi).trans (h.2.2.2.1 i hi), fun j h1 h2 i hi => (h'.2.2.2.2 j h1 h2 i hi).trans (h.2.2.2.2 j h1 h2 i hi)⟩
theorem rfM.s (hb : okB bb) (h1 : 11 ≤ j) (h2 : j ≤ 20) (v : Int) : rfM bb k n μ (zsI μ 292 j v) := ⟨zSm.rf.sI (fun h => h.1 rfl), fun _ => rfl, fun i hi => zI_ni (by omega), fun i _ => zI_nk (by have := b_ne hb (show 0 ≤ 13 by decide); omega), fun j' h1 h2 i _ => zI_nk (b_ne hb h2).1⟩
theorem rfM.stk (hb : okB bb) (j : Nat) (v : Int) : rfM bb k n μ (zsI μ 328 j v) := ⟨zSm.rf.sI (fun h => h.2.1 rfl), fun _ => rfl, fun i _ => zI_nk (by decide), fun i _ => zI_nk (by have := b_ne hb (show 0 ≤ 13 by decide); omega), fun j' h1 h2 i _ => zI_nk (b_ne hb h2).2.2⟩
theorem rfM.row (hb : okB bb) (h1 : 1 ≤ j) (h2 : j ≤ 13) {i : Nat} (hi : mlo k n j ≤ i) (v : Int) : rfM bb k n μ (zsI μ (bb + j) i v) := by
  refine ⟨zSm.rf.sI (fun h => by have := h.2.2; omega), fun _ => rfl, fun x _ => zI_nk (fun e => (b_ne hb h2).1 e.symm), fun x _ => zI_nk (by omega), fun j' g1 g2 x hx => zI_of ?_⟩
  by_cases e : j' = j
  · subst e; exact Or.inr (by omega)
  · exact Or.inl (by omega)
theorem rfM.tk (hb : okB bb) (h : mTk μ m) : rfM bb k n μ m := ⟨h.1.mono (fun c hc => hc.1), h.2.1, fun i hi => h.2.2 i (by omega) (by omega) (by omega) (by omega), fun i _ => (h.1 bb (by have := b_ne hb (show 0 ≤ 13 by decide); omega) i).1, fun j g1 g2 i _ => (h.1 (bb + j) (b_ne hb g2).1 i).1⟩
theorem rfM.kb (hb : okB bb) (h : rfM bb k n μ m) (hK : mdK b μ) : mdK b m := ⟨(h.2.2.1 10 (by decide)).trans hK.1, fun i hi => ((h.1 313 ⟨by decide, by decide, by rcases hb with rfl | rfl <;> decide⟩ i).1).trans (hK.2 i hi)⟩
theorem mC.s (hb : okB bb) (hW : wS S) (hc : chain S st) (h : mC μ bb k S st) {j : Nat} (h1 : j ≠ 19) (h2 : j ≠ 20) {v : Int} : mC (zsI μ 292 j v) bb k S st := h.lo hW hc (fun j' g1 g2 i => zI_nk (b_ne hb g2).1) (zI_ni h2.symm) (zI_ni h1.symm) (fun i => zI_nk (by decide))
theorem rdM.go (hb : okB bb) (h : rdM b bb k n μ p S st) {p' : Nat} (hp : p ≤ p') (hl : p' ≤ b.length) {v : Int} (hv : v = (p' : Nat)) : rdM b bb k n (zsI μ 292 14 v) p' S st := by
  obtain ⟨k1, k2, k3, k4, k5, k6, k7, k8, k9⟩ := h
  have F : rfM bb k n μ (zsI μ 292 14 v) := rfM.s hb (by decide) (by decide) v
  exact ⟨F.kb hb k1, (F.2.1 13).trans k2, (zI_eq rfl rfl).trans hv, (F.2.2.2.1 0 (by decide)).trans k4, ⟨(zI_ni (by decide)).trans k5.1, (zI_ni (by decide)).trans k5.2⟩, k6.s hb k8.1 k8.2.1 (by decide) (by decide), by rw [zI_ni (by decide)]; omega, k8.le hp, hl⟩
theorem rdM.hd (hb : okB bb) (hk : k < 8) (h : rdM b bb k n μ p S st) : mHd μ bb k S st := ⟨hb, hk, h.2.1, h.2.2.2.1, h.2.2.2.2.2.1.2.2.2.2.2.2.1.1, h.2.2.2.2.2.1.2.2.2.2.2.2.1.2, fun o ho => (h.2.2.2.2.2.1.2.2.2.1 o ho).1, h.2.2.2.2.2.1.2.2.2.2.1, h.2.2.2.2.2.2.2.1.1, h.2.2.2.2.2.2.2.1.2.1, h.2.2.2.2.2.2.2.1.2.2.1⟩
theorem n_fail (hb : okB bb) (h : zI μ 292 11 = 0) {c : Int} (hc : c ≠ 0) (v : Int) {μ0 : zM} (hF : rfM bb k n μ0 μ) : zok (f7_fails c v μ) (fun r => r.1 = false ∧ mEr bb k n μ0 (c, v) r.2) := by
  refine zok_mono (n_fails c v h) (fun r hr => ⟨hr.1, ?_⟩)
  rw [hr.2]
  exact ⟨by rw [zI_ni (by decide), zI_eq rfl rfl], zI_eq rfl rfl, hc, (hF.tr (rfM.s hb (by decide) (by decide) c)).tr (rfM.s hb (by decide) (by decide) v)⟩
theorem nAns.fr {r : zEr ⊕ zBs} {a : Bool × zM} {μ0 : zM} (hf : rfM bb k n μ0 μ) (h : nAns b bb k n μ r a) : nAns b bb k n μ0 r a := by
  cases r with
  | inl e => exact ⟨h.1, h.2.1, h.2.2.1, h.2.2.2.1, hf.tr h.2.2.2.2⟩
  | inr s => exact ⟨h.1, h.2.1, hf.tr h.2.2⟩
/-- a literal, and the place behind it -/
theorem n_put (hb : okB bb) (hby : byB b) (h : rdM b bb k n μ p S st) (hp : p < b.length) {v : Int} (h0 : 0 ≤ v) (h1 : v ≤ 255) {Q : Bool × zM → Prop} {K : zM → Option (Bool × zM)} (hK : ∀ m, rdM b bb k n m (p + 1) (adL S (opn st) v) st → rfM bb k n μ m → zok (K m) Q) : zok (zcm (f7_item v μ) (fun m6 => zgl ((zI m6 292 14) + 1) (fun v4 => zlt (zsI m6 292 14 v4) (fun m7 => K m7)))) Q := by
  have h7 := hby.1
  obtain ⟨k1, k2, k3, k4, k5, k6, k7, k8, k9⟩ := h
  obtain ⟨nn, hn⟩ : ∃ nn : Nat, zI μ 292 20 = nn := ⟨(zI μ 292 20).toNat, by omega⟩
  rw [hn] at k7
  refine zok_cm (n_item hb k2 hn (by omega) v) (fun m6 e6 => ?_)
  have c1 : mC m6 bb k (adL S (opn st) v) st := by rw [e6]; exact mC.lit hb k8 k6 hn (by omega) h0
  have F : rfM bb k n μ m6 := by
    rw [e6]
    exact (rfM.row (j := 4) hb (by decide) (by decide) (by rw [mlo_4]; omega) v).tr (rfM.s hb (by decide) (by decide) _)
  have hne := b_ne hb (show 4 ≤ 13 by decide)
  have e14 : ∀ i, i ≠ 20 → zI m6 292 i = zI μ 292 i := fun i hi => by rw [e6, zI_ni hi, zI_nk (fun e => hne.1 e.symm)]
  have e20 : zI m6 292 20 = (nn : Int) + 1 := by rw [e6, zI_eq rfl rfl]
  rw [e14 14 (by decide), k3]
  have w := k8.lit h0 h1 (Nat.le_refl (p + 1)) (by omega)
  refine zok_gl ⟨by omega, by omega⟩ (zok_lt (hK _ ?_ (F.tr (rfM.s hb (by decide) (by decide) _))))
  have F2 : rfM bb k n μ (zsI m6 292 14 ((p : Int) + 1)) := F.tr (rfM.s hb (by decide) (by decide) _)
  exact ⟨F2.kb hb k1, (F2.2.1 13).trans k2, zI_eq rfl rfl, (F2.2.2.2.1 0 (by decide)).trans k4, ⟨(zI_ni (by decide)).trans ((e14 11 (by decide)).trans k5.1), (zI_ni (by decide)).trans ((e14 12 (by decide)).trans k5.2)⟩, c1.s hb w.1 w.2.1 (by decide) (by decide), by rw [zI_ni (by decide), e20]; omega, w, by omega⟩
theorem rdM.chg (hb : okB bb) (h : rdM b bb k n μ p S st) (hd : sD S o = 0) {y : Int} (h0 : 0 ≤ y) (h5 : y ≤ 5) : rdM b bb k n (zsI μ (bb + 7) (60 * k + o) y) p (stC S o y) st ∧ rfM bb k n μ (zsI μ (bb + 7) (60 * k + o) y) := by
  obtain ⟨k1, k2, k3, k4, k5, k6, k7, k8, k9⟩ := h
  have F : rfM bb k n μ (zsI μ (bb + 7) (60 * k + o) y) := rfM.row hb (by decide) (by decide) (by rw [mlo_60 (by decide) (by decide)]; omega) y
  have hne := b_ne hb (show 7 ≤ 13 by decide)
  have e : ∀ i, zI (zsI μ (bb + 7) (60 * k + o) y) 292 i = zI μ 292 i := fun i => zI_nk (fun e => hne.1 e.symm)
  exact ⟨⟨F.kb hb k1, (F.2.1 13).trans k2, (e 14).trans k3, (F.2.2.2.1 0 (by decide)).trans k4, ⟨(e 11).trans k5.1, (e 12).trans k5.2⟩, k6.chg hb k8.1 k8.2.1, by rw [e]; exact k7, k8.chg hd h0 h5, k9⟩, F⟩
theorem rdM.dft (hb : okB bb) (h : rdM b bb k n μ p S st) (ho : o + 1 = sN S) (hd : sD S o = 0) (hcc : sC S o = 0) (hP : sP S o = opn st) (hl3 : st.length ≠ 4) (hB : sB S (o : Nat) = []) (hl : ∃ l, sB S (opn st) = l ++ [-(o : Int) - 1]) (h10 : zI μ (bb + 10) (60 * k + o) + 1 = zI μ 292 20) : rdM b bb k n (zsI (zsI (zsI μ (bb + 8) (60 * k + o) 1) 328 st.length (o : Nat)) 292 19 ((st.length : Int) + 1)) p (stD S o) (o :: st) ∧ rfM bb k n μ (zsI (zsI (zsI μ (bb + 8) (60 * k + o) 1) 328 st.length (o : Nat)) 292 19 ((st.length : Int) + 1)) := by
  obtain ⟨k1, k2, k3, k4, k5, k6, k7, k8, k9⟩ := h
  have F : rfM bb k n μ (zsI (zsI (zsI μ (bb + 8) (60 * k + o) 1) 328 st.length (o : Nat)) 292 19 ((st.length : Int) + 1)) := ((rfM.row hb (by decide) (by decide) (by rw [mlo_60 (by decide) (by decide)]; omega) 1).tr (rfM.stk hb _ _)).tr (rfM.s hb (by decide) (by decide) _)
  have hne := b_ne hb (show 8 ≤ 13 by decide)
  have e : ∀ i, i ≠ 19 → zI (zsI (zsI (zsI μ (bb + 8) (60 * k + o) 1) 328 st.length (o : Nat)) 292 19 ((st.length : Int) + 1)) 292 i = zI μ 292 i := fun i hi => by rw [zI_ni hi, zI_nk (by decide), zI_nk (fun e => hne.1 e.symm)]
  exact ⟨⟨F.kb hb k1, (F.2.1 13).trans k2, (e 14 (by decide)).trans k3, (F.2.2.2.1 0 (by decide)).trans k4, ⟨(e 11 (by decide)).trans k5.1, (e 12 (by decide)).trans k5.2⟩, k6.dft hb k8.1 k8.2.1 (by omega) hd hB hl h10, by rw [e 20 (by decide)]; exact k7, k8.dft ho hd hcc hP hl3 hB, k9⟩, F⟩
theorem n_153 (hb : okB bb) (hby : byB b) (h : rdM b bb k n μ q S st) (a1 a2 a3 : Int) : zok (f7_readRest_153 a1 a2 a3 (bt b q) μ) (nAns b bb k n μ (if bt b q = 125 then .inr (q + 1, S, st) else .inl (1, (q : Int)))) := by
  have h7 := hby.1
  have hq := bt_r hby q
  unfold f7_readRest_153
  rw [h.2.2.1]
  by_cases c : bt b q = 125
  · rw [if_pos c, if_pos c]
    exact zok_gl ⟨by omega, by omega⟩ (zok_lt (zok_some ⟨rfl, h.go hb (Nat.le_succ q) (by omega) (by omega), rfM.s hb (by decide) (by decide) _⟩))
  · rw [if_neg c, if_neg c]
    exact zok_cl (n_fail hb h.2.2.2.2.1.1 (by decide) _ rfM.rf) (fun x m hx => zok_some hx)
theorem n_changeOf (x : Int) : f7_changeOf x = some (chgOf x) := by
  unfold f7_changeOf chgOf
  split
  · rfl
  · split
    · rfl
    · split
      · rfl
      · split
        · rfl
        · split <;> rfl
theorem n_readRest (hb : okB bb) (hk : k < 8) (hby : byB b) (h : rdM b bb k n μ q S st) (ho : o + 1 = sN S) (hd : sD S o = 0) (hcc : sC S o = 0) (hP : sP S o = opn st) (hB : sB S (o : Nat) = []) (hl : ∃ l, sB S (opn st) = l ++ [-(o : Int) - 1]) (h10 : zI μ (bb + 10) (60 * k + o) + 1 = zI μ 292 20) : zok (f7_readRest (d : Nat) (60 * ((k : Nat) : Int) + ((o : Nat) : Int)) (o : Nat) μ) (nAns b bb k n μ (bBeh b d q S o st)) := by
  have h7 := hby.1
  have hq := bt_r hby q
  have hne := b_ne hb (show 8 ≤ 13 by decide)
  have hne7 := b_ne hb (show 7 ≤ 13 by decide)
  have h60 := h.2.2.2.2.2.2.2.1.1.1
  have hl4 := h.2.2.2.2.2.2.2.1.2.2.1
  obtain ⟨-, -, -, -, -, -, z7, z8, -, -, -, -, -⟩ := okB_f hb
  have z328 := zl_m.2.2.2.2.2.2.2.1
  have h19 : zI μ 292 19 = st.length := h.2.2.2.2.2.1.2.2.2.2.2.2.1.1
  unfold f7_readRest
  rw [h.2.2.1]
  refine zok_co (n_byteAt hby h.1 q) (fun r er => ?_)
  subst er
  rw [h19, h.2.1, z8, show zx (60 * ((k : Nat) : Int) + ((o : Nat) : Int)) = 60 * k + o from by show (_ : Int).toNat = _; omega]
  refine zok_if (fun c1 => ?_) (fun c1 => zok_if (fun c2 => ?_) (fun c2 => ?_))
  · refine zok_if (fun c3 => ?_) (fun c3 => ?_)
    · have es : bBeh b d q S o st = .inl (2, (d : Int)) := by unfold bBeh; rw [if_neg (by omega), if_neg (by omega), if_pos c1, if_pos (by omega)]
      rw [es]
      exact zok_cl (n_fail hb h.2.2.2.2.1.1 (by decide) _ rfM.rf) (fun x m hx => zok_some hx)
    · have es : bBeh b d q S o st = .inr (q + 1, stD S o, o :: st) := by unfold bBeh; rw [if_neg (by omega), if_neg (by omega), if_pos c1, if_neg (by omega)]
      rw [es]
      obtain ⟨g1, g2⟩ := h.dft hb ho hd hcc hP (by omega) hB hl h10
      have e19 : zI (zsI μ (bb + 8) (60 * k + o) 1) 292 19 = st.length := (zI_nk (fun e => hne.1 e.symm)).trans h19
      refine zok_gd ⟨⟨by omega, by omega⟩, Or.inr rfl⟩ (zok_lt ?_)
      rw [e19]
      refine zok_gd ⟨by omega, by rw [z328]; omega⟩ (zok_lt ?_)
      rw [zx_nat, zI_nk (show 292 ≠ 328 by decide), e19]
      refine zok_gl ⟨by omega, by omega⟩ (zok_lt ?_)
      generalize zsI (zsI (zsI μ (bb + 8) (60 * k + o) 1) 328 st.length (o : Nat)) 292 19 ((st.length : Int) + 1) = m1 at *
      rw [g1.2.2.1]
      exact zok_gl ⟨by omega, by omega⟩ (zok_lt (zok_some ⟨rfl, g1.go hb (Nat.le_succ q) (by omega) (by omega), g2.tr (rfM.s hb (by decide) (by decide) _)⟩))
  · have hq1 := bt_r hby (q + 1)
    have g1 := h.go (p' := q + 1) (v := (q : Int) + 1) hb (Nat.le_succ q) (by omega) (by omega)
    have F1 : rfM bb k n μ (zsI μ 292 14 ((q : Int) + 1)) := rfM.s hb (by decide) (by decide) _
    refine zok_gl ⟨by omega, by omega⟩ (zok_lt ?_)
    generalize zsI μ 292 14 ((q : Int) + 1) = m1 at *
    rw [g1.2.2.1]
    refine zok_co (n_byteAt hby g1.1 (q + 1)) (fun r er => ?_)
    subst er
    rw [n_changeOf, zco_s, g1.2.1, z7]
    have hr := chgOf_r (bt b (q + 1))
    obtain ⟨g2, F2⟩ := g1.chg (o := o) hb hd hr.1 hr.2
    refine zok_gd ⟨by omega, by omega⟩ (zok_lt ?_)
    have ec : zI (zsI m1 (bb + 7) (60 * k + o) (chgOf (bt b (q + 1)))) (bb + 7) (60 * k + o) = chgOf (bt b (q + 1)) := zI_eq rfl rfl
    generalize zsI m1 (bb + 7) (60 * k + o) (chgOf (bt b (q + 1))) = m2 at *
    rw [g2.2.1, ec, z7, g2.2.2.1]
    refine zok_gd ⟨by omega, by omega⟩ (zok_if (fun c3 => ?_) (fun c3 => ?_))
    · have es : bBeh b d q S o st = .inl (1, ((q + 1 : Nat) : Int)) := by unfold bBeh; rw [if_neg (by omega), if_pos c2, if_pos c3]
      rw [es]
      exact zok_cl (n_fail hb g2.2.2.2.2.1.1 (by decide) _ (F1.tr F2)) (fun x m hx => zok_some hx)
    · have hq2 : q + 1 < b.length := by
        rcases hq1 with ⟨a, -⟩ | ⟨-, -, a⟩
        · exact absurd (by rw [a]; decide) c3
        · exact a
      have es : bBeh b d q S o st = if bt b (q + 1 + 1) = 125 then .inr (q + 1 + 1 + 1, stC S o (chgOf (bt b (q + 1))), st) else .inl (1, ((q + 1 + 1 : Nat) : Int)) := by unfold bBeh; rw [if_neg (by omega), if_pos c2, if_neg c3]
      rw [es]
      have g3 := g2.go (p' := q + 1 + 1) (v := ((q + 1 : Nat) : Int) + 1) hb (Nat.le_succ _) (by omega) (by omega)
      have F3 : rfM bb k n m2 (zsI m2 292 14 (((q + 1 : Nat) : Int) + 1)) := rfM.s hb (by decide) (by decide) _
      refine zok_gl ⟨by omega, by omega⟩ (zok_lt ?_)
      generalize zsI m2 292 14 (((q + 1 : Nat) : Int) + 1) = m3 at *
      rw [g3.2.2.1]
      refine zok_co (n_byteAt hby g3.1 (q + 1 + 1)) (fun r er => ?_)
      subst er
      exact zok_mono (n_153 hb hby g3 _ _ _) (fun r hr => hr.fr ((F1.tr F2).tr F3))
  · have es : bBeh b d q S o st = if bt b q = 125 then .inr (q + 1, S, st) else .inl (1, (q : Int)) := by
      unfold bBeh
      by_cases c3 : bt b q = 125
      · rw [if_pos c3, if_pos c3]
      · rw [if_neg c3, if_neg c3, if_neg c2, if_neg c1]
    rw [es]
    exact n_153 hb hby h _ _ _
end rest
