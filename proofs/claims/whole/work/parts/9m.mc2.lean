/-! THE REFERENCE'S SNIPPET WHILE IT IS READ, 2: occurrences, changes, defaults -/
section mc2
variable {μ m : zM} {b k p n : Nat} {S : zSn} {st : List Nat} {v : Int} {f : Nat}
theorem dcn_occ (w : Int) : dcn (adO S w f) = dcn S := by
  unfold dcn
  have e : ∀ o, sD (adO S w f) o = if o = sN S then 0 else sD S o := fun _ => rfl
  show cnt _ (sN S) + (if decide (sD (adO S w f) (sN S) = 1) = true then 1 else 0) = _
  rw [if_neg (by rw [decide_eq_true_eq, e, if_pos rfl]; decide), Nat.add_zero]
  exact cnt_congr (fun i hi => by rw [e, if_neg (by omega)])
theorem cnt_upd {P Q : Nat → Bool} {o : Nat} (h : ∀ i, i ≠ o → P i = Q i) (h1 : P o = true) (h0 : Q o = false) : ∀ n, o < n → cnt P n = cnt Q n + 1 := by
  intro n
  induction n with
  | zero => intro h; omega
  | succ n ih =>
    intro hn
    show cnt P n + _ = cnt Q n + _ + 1
    by_cases e : o = n
    · subst e
      rw [cnt_congr (fun i hi => h i (by omega)), if_pos h1, if_neg (by rw [h0]; decide)]
    · rw [ih (by omega), h n (fun q => e q.symm)]; omega
theorem dcn_dft {o : Nat} (ho : o < sN S) (hd : sD S o = 0) : dcn (stD S o) = dcn S + 1 := by
  unfold dcn
  have e : ∀ x, sD (stD S o) x = if x = o then 1 else sD S x := fun _ => rfl
  exact cnt_upd (o := o) (fun i hi => by rw [e, if_neg hi]) (by rw [e, if_pos rfl]; rfl) (decide_eq_false (by rw [hd]; decide)) (sN S) ho
theorem nin_opn {q : Nat} (h : q ∉ st) : ((q : Nat) : Int) ≠ opn st := fun e => by
  cases st with
  | nil => have e1 : opn [] = -1 := rfl; omega
  | cons x r => have e1 : opn (x :: r) = (x : Nat) := rfl; exact h (by rw [show q = x by omega]; exact List.mem_cons_self)
theorem opnT_2 (y : Int) (hy : y ∈ opnT st) : y ≠ -2 := by rcases opns_mem.mp (opnT_sub hy) with h | ⟨q, -, h⟩ <;> omega
theorem mC.occ (hw : wBu p S st) (h : mC μ b k S st) (hn : zI μ 292 20 = (n : Nat)) (h7 : n < 700) (e123 : ∀ j, 1 ≤ j → j ≤ 3 → ∀ i, zI m (b + j) i = zI μ (b + j) i) (h5 : zI m (b + 5) k = (sN S : Int) + 1) (hr : ∀ j, 6 ≤ j → j ≤ 12 → ∀ i, i ≠ 60 * k + sN S → zI m (b + j) i = zI μ (b + j) i) (r6 : zI m (b + 6) (60 * k + sN S) = (f : Nat)) (r7 : zI m (b + 7) (60 * k + sN S) = 0) (r8 : zI m (b + 8) (60 * k + sN S) = 0) (r9 : zI m (b + 9) (60 * k + sN S) = opn st) (r10 : zI m (b + 10) (60 * k + sN S) = (n : Nat)) (r11 : zI m (b + 11) (60 * k + sN S) = (n : Nat)) (r12 : zI m (b + 12) (60 * k + sN S) = st.length) (h13 : ∀ g, g < 10 → zI m (b + 13) (10 * k + g) = sE (adO S (opn st) f) g) (h4 : ∀ i, i < n → zI m (b + 4) i = zI μ (b + 4) i) (h4n : zI m (b + 4) n = 1000 + (sN S : Int)) (e20 : zI m 292 20 = (n : Int) + 1) (e19 : zI m 292 19 = zI μ 292 19) (e328 : ∀ i, zI m 328 i = zI μ 328 i) : mC m b k (adO S (opn st) f) st := by
  obtain ⟨a1, a2, a3, a4, a5, a6, a7, a8, a9, a10⟩ := h
  have hW := hw.1
  have hc := hw.2.1
  rw [hn] at a6 a8 a9 a10
  have eF : ∀ o, sF (adO S (opn st) f) o = if o = sN S then (f : Int) else sF S o := fun o => rfl
  have eC : ∀ o, sC (adO S (opn st) f) o = if o = sN S then 0 else sC S o := fun o => rfl
  have eD : ∀ o, sD (adO S (opn st) f) o = if o = sN S then 0 else sD S o := fun o => rfl
  have eP : ∀ o, sP (adO S (opn st) f) o = if o = sN S then opn st else sP S o := fun o => rfl
  have eG : ∀ o, sG (adO S (opn st) f) o = if o = sN S then (if opn st = -1 then 0 else sG S (opn st).toNat + 1) else sG S o := fun o => rfl
  have eB : ∀ q, sB (adO S (opn st) f) q = if q = opn st then sB S (opn st) ++ [-(sN S : Int) - 1] else sB S q := fun q => rfl
  have eN : sN (adO S (opn st) f) = sN S + 1 := rfl
  have eT : sT (adO S (opn st) f) = sT S := rfl
  have hG : (if opn st = -1 then 0 else sG S (opn st).toNat + 1) = (st.length : Int) := by
    cases st with
    | nil => rfl
    | cons x r =>
      have e1 : opn (x :: r) = (x : Nat) := rfl
      rw [e1, if_neg (by omega), show ((x : Nat) : Int).toNat = x from rfl, chain_G hW r x hc, List.length_cons]; omega
  have hat : ∀ o, o < sN S → zI m (b + 10) (60 * k + o) = zI μ (b + 10) (60 * k + o) := fun o ho => hr 10 (by decide) (by decide) _ (by omega)
  have hto : ∀ o, o < sN S → zI m (b + 11) (60 * k + o) = zI μ (b + 11) (60 * k + o) := fun o ho => hr 11 (by decide) (by decide) _ (by omega)
  have lo : ∀ i : Nat, (i : Int) < (n : Nat) → zI m (b + 4) i = zI μ (b + 4) i := fun i hi => h4 i (by omega)
  have hF := mFirst_lo (m := m) hc (e123 3 (by decide) (by decide) k) hat
  refine ⟨(e123 2 (by decide) (by decide) k).trans a1, fun i hi => (e123 1 (by decide) (by decide) _).trans (a2 i hi), by rw [h5, eN]; omega, fun o ho => ?_, h13, ?_, ⟨e19.trans a7.1, stR_lo (fun i _ => e328 i) a7.2⟩, fun q h1 h2 h3 => ?_, ?_, ?_⟩
  · rw [eN] at ho
    rw [eF, eC, eD, eP, eG]
    by_cases c : o = sN S
    · rw [if_pos c, if_pos c, if_pos c, if_pos c, if_pos c, hG, c]
      exact ⟨r6, r7, r8, r9, r12⟩
    · rw [if_neg c, if_neg c, if_neg c, if_neg c, if_neg c, hr 6 (by decide) (by decide) _ (by omega), hr 7 (by decide) (by decide) _ (by omega), hr 8 (by decide) (by decide) _ (by omega), hr 9 (by decide) (by decide) _ (by omega), hr 12 (by decide) (by decide) _ (by omega)]
      exact a4 o (by omega)
  · rw [e123 3 (by decide) (by decide), e20, eT, eN, dcn_occ]; omega
  · rw [eN] at h1
    rw [eD] at h2
    by_cases c : q = sN S
    · rw [if_pos c] at h2; exact absurd h2 (by decide)
    · rw [if_neg c] at h2
      obtain ⟨b1, b2, b3, b4⟩ := a8 q (by omega) h2 h3
      rw [hat q (by omega), hto q (by omega), e20, eB, if_neg (nin_opn h3)]
      exact ⟨b1, b2, by omega, pWk_lo _ _ (fun i hi => lo i (by omega)) (fun x hx h0 => by
        have ho := sB_occ hW (Or.inr ⟨q, rfl, by omega, h2⟩) hx h0
        exact ⟨hat _ ho.1, hto _ ho.1⟩) b4⟩
  · rw [hF, e20, eB, if_pos rfl]
    refine ⟨a9.1, pWk_app (by omega) (e := (n : Int)) ?_ _ _ (pWk_lo _ _ lo (fun x hx h0 => by
        have ho := sB_occ hW (chain_part hc) hx h0
        exact ⟨hat _ ho.1, hto _ ho.1⟩) a9.2)⟩
    have e9 : (-(-(sN S : Int) - 1) - 1).toNat = sN S := by omega
    refine ⟨by omega, by omega, Or.inr ⟨by omega, ?_, ?_, ?_⟩⟩
    · rw [show ((n : Nat) : Int).toNat = n from rfl, h4n]; omega
    · rw [e9, r10, r11]; exact ⟨Int.le_refl _, rfl⟩
    · rw [e9, r11]; rfl
  · rw [e20]
    exact mOp_lo (v := -2) hW (show (n : Int) ≤ (n : Int) + 1 by omega) (e123 3 (by decide) (by decide) k) lo hat (fun o ho _ => hto o ho) st hc (fun y hy => ⟨opnT_2 y hy, by rw [eB, if_neg (opnT_ne hW hc y hy)]⟩) a10
theorem mC.chg (hb : okB b) (hW : wS S) (hc : chain S st) (h : mC μ b k S st) {o : Nat} {y : Int} : mC (zsI μ (b + 7) (60 * k + o) y) b k (stC S o y) st := by
  obtain ⟨a1, a2, a3, a4, a5, a6, a7, a8, a9, a10⟩ := h
  generalize hm : zsI μ (b + 7) (60 * k + o) y = m
  have e : ∀ j, j ≠ 7 → ∀ i, zI m (b + j) i = zI μ (b + j) i := fun j hj i => by rw [← hm, zI_nk (by omega)]
  have hne := b_ne hb (show 7 ≤ 13 by decide)
  have e292 : ∀ i, zI m 292 i = zI μ 292 i := fun i => by rw [← hm, zI_nk (fun e => hne.1 e.symm)]
  have e328 : ∀ i, zI m 328 i = zI μ 328 i := fun i => by rw [← hm, zI_nk (fun e => hne.2.2 e.symm)]
  have hF := mFirst_lo (m := m) hc (e 3 (by decide) k) (fun o _ => e 10 (by decide) _)
  have eD : dcn (stC S o y) = dcn S := rfl
  refine ⟨(e 2 (by decide) k).trans a1, fun i hi => (e 1 (by decide) _).trans (a2 i hi), (e 5 (by decide) k).trans a3, fun x hx => ?_, fun f hf => (e 13 (by decide) _).trans (a5 f hf), by rw [e 3 (by decide), e292, eD]; exact a6, ⟨(e292 19).trans a7.1, stR_lo (fun i _ => e328 i) a7.2⟩, fun q h1 h2 h3 => ?_, ?_, ?_⟩
  · obtain ⟨b1, b2, b3, b4, b5⟩ := a4 x hx
    refine ⟨(e 6 (by decide) _).trans b1, ?_, (e 8 (by decide) _).trans b3, (e 9 (by decide) _).trans b4, (e 12 (by decide) _).trans b5⟩
    show _ = if x = o then y else sC S x
    by_cases c : x = o
    · rw [if_pos c, ← hm, zI_eq rfl (by rw [c])]
    · rw [if_neg c, ← hm, zI_ni (by omega)]; exact b2
  · rw [e 10 (by decide), e 11 (by decide), e292]
    obtain ⟨b1, b2, b3, b4⟩ := a8 q h1 h2 h3
    exact ⟨b1, b2, b3, pWk_congr (e 4 (by decide)) (e 10 (by decide)) (e 11 (by decide)) _ _ _ b4⟩
  · rw [hF, e292]
    exact ⟨a9.1, pWk_congr (e 4 (by decide)) (e 10 (by decide)) (e 11 (by decide)) _ _ _ a9.2⟩
  · rw [e292]
    exact mOp_lo (v := -2) hW (Int.le_refl _) (e 3 (by decide) k) (fun i _ => e 4 (by decide) i) (fun o _ => e 10 (by decide) _) (fun o _ _ => e 11 (by decide) _) st hc (fun y hy => ⟨opnT_2 y hy, rfl⟩) a10
theorem mC.dft (hb : okB b) (hW : wS S) (hc : chain S st) (h : mC μ b k S st) {o : Nat} (ho : o < sN S) (hd : sD S o = 0) (hB : sB S (o : Nat) = []) (hl : ∃ l, sB S (opn st) = l ++ [-(o : Int) - 1]) (h10 : zI μ (b + 10) (60 * k + o) + 1 = zI μ 292 20) : mC (zsI (zsI (zsI μ (b + 8) (60 * k + o) 1) 328 st.length (o : Nat)) 292 19 ((st.length : Int) + 1)) b k (stD S o) (o :: st) := by
  obtain ⟨a1, a2, a3, a4, a5, a6, a7, a8, a9, a10⟩ := h
  generalize hm : zsI (zsI (zsI μ (b + 8) (60 * k + o) 1) 328 st.length (o : Nat)) 292 19 ((st.length : Int) + 1) = m
  have e : ∀ j, j ≤ 13 → j ≠ 8 → ∀ i, zI m (b + j) i = zI μ (b + j) i := fun j h13 hj i => by
    have := b_ne hb h13
    rw [← hm, zI_nk this.1, zI_nk this.2.2, zI_nk (by omega)]
  have hne := b_ne hb (show 8 ≤ 13 by decide)
  have e20 : zI m 292 20 = zI μ 292 20 := by rw [← hm, zI_ni (by decide), zI_nk (by decide), zI_nk (fun e => hne.1 e.symm)]
  have e19 : zI m 292 19 = (st.length : Int) + 1 := by rw [← hm, zI_eq rfl rfl]
  have e328 : ∀ i, i < st.length → zI m 328 i = zI μ 328 i := fun i hi => by rw [← hm, zI_nk (by decide), zI_ni (by omega), zI_nk (fun e => hne.2.2 e.symm)]
  have e4 := e 4 (by decide) (by decide)
  have e10 := e 10 (by decide) (by decide)
  have e11 := e 11 (by decide) (by decide)
  have e3 := e 3 (by decide) (by decide)
  have hF := mFirst_lo (m := m) hc (e3 k) (fun o _ => e10 _)
  have eB : ∀ q, sB (stD S o) q = sB S q := fun _ => rfl
  obtain ⟨l, hl⟩ := hl
  have h9 := a9.2
  rw [hl] at h9
  obtain ⟨a', w1, w2⟩ := pWk_snoc _ _ _ h9
  have e9 : (-(-(o : Int) - 1) - 1).toNat = o := by omega
  obtain ⟨w3, w4, w5⟩ := w2
  have w6 : zI μ (b + 4) a'.toNat = 1000 + (o : Int) ∧ zI μ (b + 10) (60 * k + o) = a' := by
    rcases w5 with ⟨c, -⟩ | ⟨-, c2, c3, -⟩
    · omega
    · rw [e9] at c3; exact ⟨by rw [c2]; omega, c3.2⟩
  have eo : opn (o :: st) = (o : Nat) := rfl
  refine ⟨(e 2 (by decide) (by decide) k).trans a1, fun i hi => (e 1 (by decide) (by decide) _).trans (a2 i hi), (e 5 (by decide) (by decide) k).trans a3, fun x hx => ?_, fun f hf => (e 13 (by decide) (by decide) _).trans (a5 f hf), ?_, ⟨by rw [e19, List.length_cons]; omega, ?_, stR_lo e328 a7.2⟩, fun q h1 h2 h3 => ?_, ?_, ?_⟩
  · obtain ⟨b1, b2, b3, b4, b5⟩ := a4 x hx
    refine ⟨(e 6 (by decide) (by decide) _).trans b1, (e 7 (by decide) (by decide) _).trans b2, ?_, (e 9 (by decide) (by decide) _).trans b4, (e 12 (by decide) (by decide) _).trans b5⟩
    show _ = if x = o then 1 else sD S x
    by_cases c : x = o
    · rw [if_pos c, ← hm, zI_nk hne.1, zI_nk hne.2.2, zI_eq rfl (by rw [c])]
    · rw [if_neg c, ← hm, zI_nk hne.1, zI_nk hne.2.2, zI_ni (by omega)]; exact b3
  · have eN : sN (stD S o) = sN S := rfl
    have eT : sT (stD S o) = sT S := rfl
    rw [e3, e20, eN, eT, dcn_dft ho hd, List.length_cons]; omega
  · rw [← hm, zI_nk (by decide), zI_eq rfl rfl]
  · have h1' : q < sN S := h1
    have h2' : (if q = o then (1 : Int) else sD S q) = 1 := h2
    rw [List.mem_cons, not_or] at h3
    rw [if_neg h3.1] at h2'
    rw [e10, e11, e20, eB]
    obtain ⟨b1, b2, b3, b4⟩ := a8 q h1' h2' h3.2
    exact ⟨b1, b2, b3, pWk_congr e4 e10 e11 _ _ _ b4⟩
  · have ef : mFirst m b k (opn (o :: st)) = zI μ (b + 10) (60 * k + o) + 1 := by
      unfold mFirst
      rw [eo, if_neg (by omega), show ((o : Nat) : Int).toNat = o from rfl, e10]
    rw [ef, eB, eo, hB, e20]
    exact ⟨by omega, h10⟩
  · refine ⟨by rw [e10, w6.2]; exact w3, by rw [e10, e20]; omega, by rw [e10, e4, w6.2, w6.1], by rw [hF]; exact a9.1, ⟨l, hl, ?_⟩, ?_⟩
    · rw [hF, e10, w6.2]
      exact pWk_congr e4 e10 e11 _ _ _ w1
    · rw [e20]
      exact mOp_lo (v := -2) hW (Int.le_refl _) (e3 k) (fun i _ => e4 i) (fun o _ => e10 _) (fun o _ _ => e11 _) st hc (fun y hy => ⟨opnT_2 y hy, rfl⟩) a10
theorem nodup_rng (n : Nat) : (List.range n).Nodup := List.nodup_range
theorem mC.shut (hb : okB b) {q : Nat} {r : List Nat} (hw : wBu p S (q :: r)) (h : mC μ b k S (q :: r)) (hn : zI μ 292 20 = (n : Nat)) (h7 : n < 700) : mC (zsI (zsI (zsI (zsI μ 292 19 (r.length : Int)) (b + 11) (60 * k + q) (n : Nat)) (b + 4) n 2000) 292 20 ((n : Int) + 1)) b k S r := by
  obtain ⟨a1, a2, a3, a4, a5, a6, a7, a8, a9, a10⟩ := h
  have hW := hw.1
  have hc := hw.2.1
  have hr : chain S r := hc.2.2.2
  rw [hn] at a6 a8 a9 a10
  generalize hm : zsI (zsI (zsI (zsI μ 292 19 (r.length : Int)) (b + 11) (60 * k + q) (n : Nat)) (b + 4) n 2000) 292 20 ((n : Int) + 1) = m
  have hn4 := b_ne hb (show 4 ≤ 13 by decide)
  have hn11 := b_ne hb (show 11 ≤ 13 by decide)
  have e : ∀ j, j ≤ 13 → j ≠ 4 → j ≠ 11 → ∀ i, zI m (b + j) i = zI μ (b + j) i := fun j hj h4 h11 i => by
    have := b_ne hb hj
    rw [← hm, zI_nk this.1, zI_nk (by omega), zI_nk (by omega), zI_nk this.1]
  have ei : ∀ i, i ≠ n → zI m (b + 4) i = zI μ (b + 4) i := fun i hi => by rw [← hm, zI_nk hn4.1, zI_ni hi, zI_nk (by omega), zI_nk hn4.1]
  have lo : ∀ i : Nat, (i : Int) < (n : Nat) → zI m (b + 4) i = zI μ (b + 4) i := fun i hi => ei i (by omega)
  have e20 : zI m 292 20 = (n : Int) + 1 := by rw [← hm, zI_eq rfl rfl]
  have e19 : zI m 292 19 = (r.length : Int) := by rw [← hm, zI_ni (by decide), zI_nk (fun e => hn4.1 e.symm), zI_nk (fun e => hn11.1 e.symm), zI_eq rfl rfl]
  have e328 : ∀ i, zI m 328 i = zI μ 328 i := fun i => by rw [← hm, zI_nk (by decide), zI_nk (fun e => hn4.2.2 e.symm), zI_nk (fun e => hn11.2.2 e.symm), zI_nk (by decide)]
  have e10 := e 10 (by decide) (by decide) (by decide)
  have e3 := e 3 (by decide) (by decide) (by decide)
  have e11q : zI m (b + 11) (60 * k + q) = (n : Nat) := by rw [← hm, zI_nk hn11.1, zI_nk (by omega), zI_eq rfl rfl]
  have e11 : ∀ o, o ≠ q → zI m (b + 11) (60 * k + o) = zI μ (b + 11) (60 * k + o) := fun o ho => by rw [← hm, zI_nk hn11.1, zI_nk (by omega), zI_ni (by omega), zI_nk hn11.1]
  have hF := mFirst_lo (m := m) hr (e3 k) (fun o _ => e10 _)
  have hq : q < sN S := hc.1
  have hqP : sP S q = opn r := hc.2.2.1
  have hpar : ∀ o, o < sN S → sP S o = (q : Nat) → o ≠ q := fun o ho h1 h2 => by
    rcases hW.2.2.2.2.1 o ho with ⟨c, -⟩ | ⟨q', c, d, -⟩ <;> omega
  obtain ⟨o1, o2, o3, o4, ⟨l, o5, o6⟩, o7⟩ := a10
  have eo : opn (q :: r) = (q : Nat) := rfl
  have ef : mFirst μ b k (opn (q :: r)) = zI μ (b + 10) (60 * k + q) + 1 := by
    unfold mFirst
    rw [eo, if_neg (by omega), show ((q : Nat) : Int).toNat = q from rfl]
  rw [ef, eo] at a9
  have a9le := pWk_le _ _ _ a9.2
  have hql : ∀ x ∈ l, x < 0 → (-x - 1).toNat ≠ q := fun x hx h0 e => by
    have h8 := (hW.2.2.2.2.2.2.2.1 _ (chain_part hr)).1
    have hnd : (occs (sB S (opn r))).Nodup := by rw [h8]; exact (nodup_rng _).filter _
    have e1 : occs [-(q : Int) - 1] = [q] := by unfold occs; rw [List.filterMap_cons, if_pos (by omega)]; show [(-(-(q : Int) - 1) - 1).toNat] = _; rw [show (-(-(q : Int) - 1) - 1).toNat = q by omega]
    rw [o5, occs_app, e1, List.nodup_append] at hnd
    have hx' := occs_mem hx h0
    rw [e] at hx'
    exact hnd.2.2 q hx' q List.mem_cons_self rfl
  refine ⟨(e 2 (by decide) (by decide) (by decide) k).trans a1, fun i hi => (e 1 (by decide) (by decide) (by decide) _).trans (a2 i hi), (e 5 (by decide) (by decide) (by decide) k).trans a3, fun o ho => ?_, fun f hf => (e 13 (by decide) (by decide) (by decide) _).trans (a5 f hf), ?_, ⟨e19, stR_lo (fun i _ => e328 i) a7.2.2⟩, fun q' h1 h2 h3 => ?_, ?_, ?_⟩
  · rw [e 6 (by decide) (by decide) (by decide), e 7 (by decide) (by decide) (by decide), e 8 (by decide) (by decide) (by decide), e 9 (by decide) (by decide) (by decide), e 12 (by decide) (by decide) (by decide)]; exact a4 o ho
  · rw [List.length_cons] at a6
    rw [e3, e20]; omega
  · by_cases c : q' = q
    · subst c
      rw [e10, e11q, e20]
      refine ⟨o1, by omega, by omega, pWk_lo _ _ lo (fun x hx h0 => ?_) a9.2⟩
      have ho := sB_occ hW (Or.inr ⟨q', rfl, hq, hc.2.1⟩) hx h0
      exact ⟨e10 _, e11 _ (hpar _ ho.1 ho.2)⟩
    · obtain ⟨b1, b2, b3, b4⟩ := a8 q' h1 h2 (by rw [List.mem_cons, not_or]; exact ⟨c, h3⟩)
      rw [e10, e11 q' c, e20]
      refine ⟨b1, b2, by omega, pWk_lo _ _ (fun i hi => lo i (by omega)) (fun x hx h0 => ?_) b4⟩
      have ho := sB_occ hW (Or.inr ⟨q', rfl, h1, h2⟩) hx h0
      exact ⟨e10 _, e11 _ (fun e => nin_opn h3 (by rw [← ho.2, e, hqP]))⟩
  · rw [hF, e20, o5]
    refine ⟨o4, pWk_app (e := zI μ (b + 10) (60 * k + q)) (by omega) ?_ _ _ (pWk_lo _ _ (fun i hi => lo i (by omega)) (fun x hx h0 => ⟨e10 _, e11 _ (hql x hx h0)⟩) o6)⟩
    have e9 : (-(-(q : Int) - 1) - 1).toNat = q := by omega
    refine ⟨o1, by omega, Or.inr ⟨by omega, ?_, ?_, ?_⟩⟩
    · rw [ei _ (by omega), o3]; omega
    · rw [e9, e11q, e10]; exact ⟨by omega, rfl⟩
    · rw [e9, e11q]; rfl
  · rw [e20]
    exact mOp_lo (v := opn r) hW (show (n : Int) ≤ (n : Int) + 1 by omega) (e3 k) lo (fun o _ => e10 _) (fun o _ ho => e11 o (fun e => ho (by rw [e]; exact hqP))) r hr (fun y hy => ⟨opnT_ne hW hr y hy, rfl⟩) o7
end mc2
