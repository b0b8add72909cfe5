/-! THE CLASS'S SNIPPET WHILE IT IS READ -/
theorem okT_4 : ∀ t, t < 193 → zkd t = 2 → zit t + 1 < t := by decide +kernel
theorem pSel_snoc (μ : zM) (r : Nat) (p : Int) : ∀ (n a : Nat), pSel μ r p a (n + 1) = pSel μ r p a n ++ (if zI μ (r + 1) (a + n) = p then [zI μ r (a + n)] else []) := by
  intro n
  induction n with
  | zero =>
    intro a
    show (if zI μ (r + 1) a = p then zI μ r a :: pSel μ r p (a + 1) 0 else pSel μ r p (a + 1) 0) = [] ++ _
    rfl
  | succ n ih =>
    intro a
    have e1 : pSel μ r p a (n + 2) = if zI μ (r + 1) a = p then zI μ r a :: pSel μ r p (a + 1) (n + 1) else pSel μ r p (a + 1) (n + 1) := rfl
    have e2 : pSel μ r p a (n + 1) = if zI μ (r + 1) a = p then zI μ r a :: pSel μ r p (a + 1) n else pSel μ r p (a + 1) n := rfl
    rw [e1, e2, ih (a + 1), show a + 1 + n = a + (n + 1) by omega]
    by_cases c : zI μ (r + 1) a = p
    · rw [if_pos c, if_pos c, List.cons_append]
    · rw [if_neg c, if_neg c]
theorem pSel_lo {μ μ' : zM} {r : Nat} (p : Int) : ∀ (n a : Nat), (∀ i, a ≤ i → i < a + n → zI μ' r i = zI μ r i ∧ zI μ' (r + 1) i = zI μ (r + 1) i) → pSel μ' r p a n = pSel μ r p a n := by
  intro n
  induction n with
  | zero => intro a _; rfl
  | succ n ih =>
    intro a h
    have e1 : ∀ μ, pSel μ r p a (n + 1) = if zI μ (r + 1) a = p then zI μ r a :: pSel μ r p (a + 1) n else pSel μ r p (a + 1) n := fun _ => rfl
    rw [e1, e1, (h a (by omega) (by omega)).1, (h a (by omega) (by omega)).2, ih (a + 1) (fun i h1 h2 => h i (by omega) (by omega))]
def opns (st : List Nat) : List Int := st.map (fun q : Nat => (q : Int)) ++ [-1]
theorem opn_mem (st : List Nat) : opn st ∈ opns st := by
  cases st with
  | nil => exact List.mem_cons_self
  | cons q r => exact List.mem_cons_self
def cEndO (μ : zM) (t : Nat) (st : List Nat) (p : Int) : Int := if p ∈ opns st then zI μ t 16 else zI μ (t + 10) p.toNat
def pC (μ : zM) (t : Nat) (S : zSn) (st : List Nat) : Prop :=
  zI μ t 1 = (sNm S).length ∧ (∀ i, i < (sNm S).length → zI μ (t + 1) i = (sNm S).getD i 0) ∧ zI μ t 2 = sN S ∧
  (∀ o, o < sN S → zI μ (t + 2) o = sF S o ∧ zI μ (t + 3) o = sC S o ∧ zI μ (t + 4) o = sD S o ∧ zI μ (t + 5) o = sP S o ∧ zI μ (t + 6) o = sG S o) ∧
  (∀ f, f < 10 → zI μ (t + 7) f = sE S f) ∧
  (zr (zI μ t 3) ∧ ∀ i, i < 32 → mbit (zI μ t 3) i = decide (∃ o, o < sN S ∧ sF S o = i)) ∧
  (0 ≤ zI μ t 15 ∧ zI μ t 15 ≤ zI μ t 16 ∧ zI μ t 16 ≤ 700 ∧ zI μ t 16 - zI μ t 15 - sN S = sT S) ∧
  (∀ q : Nat, q ≤ 60 → zI μ (t + 8) q = lits (sB S ((q : Int) - 1))) ∧
  (∀ p, isPart S p → 0 ≤ cFirst μ t p ∧ cFirst μ t p ≤ cEndO μ t st p ∧ cEndO μ t st p ≤ zI μ t 16 ∧ pSel μ (zit t) p (cFirst μ t p).toNat (cEndO μ t st p - cFirst μ t p).toNat = sB S p) ∧
  (∀ o, o < sN S → 0 ≤ cFirst μ t (sP S o) ∧ cFirst μ t (sP S o) ≤ zI μ (t + 9) o ∧ zI μ (t + 9) o < zI μ t 16 ∧ pSel μ (zit t) (sP S o) (cFirst μ t (sP S o)).toNat (zI μ (t + 9) o - cFirst μ t (sP S o)).toNat = sAhead S o)
/-- what stays where a snippet is read: other cells, and the items ahead of n -/
def frT (t n : Nat) (μ m : zM) : Prop := zSm (fun c => (c < t ∨ t + 10 < c) ∧ c ≠ zit t ∧ c ≠ zit t + 1) μ m ∧ ∀ i, i < n → zI m (zit t) i = zI μ (zit t) i ∧ zI m (zit t + 1) i = zI μ (zit t + 1) i
theorem frT.rf {t n : Nat} {μ : zM} : frT t n μ μ := ⟨zSm.rf, fun _ _ => ⟨rfl, rfl⟩⟩
theorem frT.tr {t n : Nat} {μ m m' : zM} (h : frT t n μ m) (h' : frT t n m m') : frT t n μ m' := ⟨h.1.tr h'.1, fun i hi => ⟨(h'.2 i hi).1.trans (h.2 i hi).1, (h'.2 i hi).2.trans (h.2 i hi).2⟩⟩
theorem frT.le {t n n' : Nat} {μ m : zM} (h : frT t n μ m) (hn : n' ≤ n) : frT t n' μ m := ⟨h.1, fun i hi => h.2 i (by omega)⟩
section cb
variable {t p : Nat} {μ m : zM} {S : zSn} {st : List Nat} {v : Int} {f : Nat}
theorem pC.sc (h : pC μ t S []) (hW : wS S) : pSc μ t S := by
  obtain ⟨a1, a2, a3, a4, a5, a6, a7, a8, a9, a10⟩ := h
  have e : ∀ p, cEndO μ t [] p = cEnd μ t p := fun p => by
    unfold cEndO cEnd
    by_cases c : p = -1
    · rw [if_pos c, if_pos (by rw [c]; exact List.mem_cons_self)]
    · rw [if_neg c, if_neg (show ¬ p ∈ opns [] from fun q => c (List.mem_singleton.mp q))]
  refine ⟨a1, a2, a3, a4, a5, a6, a7, fun p hp => ?_, fun o ho => ?_⟩
  · obtain ⟨b1, b2, b3, b4⟩ := a9 p hp
    rw [e] at b2 b3 b4
    refine ⟨?_, b1, b2, by omega, b4⟩
    rcases hp with q | ⟨o, q, h1, h2⟩
    · subst q; exact a8 0 (by decide)
    · subst q
      have := a8 (o + 1) (by have := hW.1; omega)
      rw [show (((o + 1 : Nat) : Int) - 1) = (o : Nat) by omega] at this
      rw [show ((o : Int) + 1).toNat = o + 1 by omega]; exact this
  · obtain ⟨b1, b2, b3, b4⟩ := a10 o ho
    exact ⟨b2, by omega, b4⟩
theorem pC.lo (h : pC μ t S st) (hp : ∀ c, t ≤ c → c ≤ t + 10 → ∀ i, zI m c i = zI μ c i) (hr : ∀ i, i < (zI μ t 16).toNat → zI m (zit t) i = zI μ (zit t) i ∧ zI m (zit t + 1) i = zI μ (zit t + 1) i) : pC m t S st := by
  obtain ⟨a1, a2, a3, a4, a5, a6, a7, a8, a9, a10⟩ := h
  have e1 : ∀ p, cFirst m t p = cFirst μ t p := fun p => by unfold cFirst; rw [hp t (by omega) (by omega), hp (t + 9) (by omega) (by omega)]
  have e2 : ∀ p, cEndO m t st p = cEndO μ t st p := fun p => by unfold cEndO; rw [hp t (by omega) (by omega), hp (t + 10) (by omega) (by omega)]
  have e0 := hp t (by omega) (by omega)
  refine ⟨(e0 1).trans a1, fun i hi => (hp (t + 1) (by omega) (by omega) i).trans (a2 i hi), (e0 2).trans a3, fun o ho => ?_, fun f hf => (hp (t + 7) (by omega) (by omega) f).trans (a5 f hf), by rw [e0]; exact a6, by rw [e0, e0]; exact a7, fun q hq => (hp (t + 8) (by omega) (by omega) q).trans (a8 q hq), fun p hp' => ?_, fun o ho => ?_⟩
  · rw [hp (t + 2) (by omega) (by omega), hp (t + 3) (by omega) (by omega), hp (t + 4) (by omega) (by omega), hp (t + 5) (by omega) (by omega), hp (t + 6) (by omega) (by omega)]; exact a4 o ho
  · obtain ⟨b1, b2, b3, b4⟩ := a9 p hp'
    rw [e1, e2, e0]
    exact ⟨b1, b2, b3, (pSel_lo p _ _ (fun i h1 h2 => hr i (by omega))).trans b4⟩
  · obtain ⟨b1, b2, b3, b4⟩ := a10 o ho
    rw [e1, e0, hp (t + 9) (by omega) (by omega)]
    exact ⟨b1, b2, b3, (pSel_lo _ _ _ (fun i h1 h2 => hr i (by omega))).trans b4⟩
theorem tw_app {P : Int → Bool} {l : List Int} {x : Int} (h : ∃ y ∈ l, P y = false) : (l ++ [x]).takeWhile P = l.takeWhile P := by
  induction l with
  | nil => obtain ⟨y, hy, -⟩ := h; cases hy
  | cons z l ih =>
    rw [List.cons_append, List.takeWhile_cons, List.takeWhile_cons]
    by_cases c : P z = true
    · rw [if_pos c, if_pos c]
      obtain ⟨y, hy, h2⟩ := h
      rcases List.mem_cons.mp hy with e | e
      · rw [e, c] at h2; cases h2
      · rw [ih ⟨y, e, h2⟩]
    · rw [if_neg c, if_neg c]
theorem occ_own (hW : wS S) {o : Nat} (ho : o < sN S) : -(o : Int) - 1 ∈ sB S (sP S o) := by
  have hp : isPart S (sP S o) := by
    rcases hW.2.2.2.2.1 o ho with ⟨a, -⟩ | ⟨q, a, b, d, -⟩
    · exact Or.inl a
    · exact Or.inr ⟨q, a, by omega, d⟩
  have h8 := (hW.2.2.2.2.2.2.2.1 _ hp).1
  have : o ∈ occs (sB S (sP S o)) := by
    rw [h8, List.mem_filter]
    exact ⟨List.mem_range.mpr ho, decide_eq_true rfl⟩
  obtain ⟨x, hx, h9⟩ := List.mem_filterMap.mp this
  by_cases c : x < 0
  · rw [if_pos c] at h9
    have := Option.some.inj h9
    rw [show -(o : Int) - 1 = x by omega]; exact hx
  · rw [if_neg c] at h9; cases h9
theorem opn_rng (hW : wS S) (hc : chain S st) : -1 ≤ opn st ∧ opn st < 60 := by
  have := hW.1
  cases st with
  | nil => show (-1 : Int) ≤ -1 ∧ (-1 : Int) < 60; omega
  | cons q r => have h := hc.1; show (-1 : Int) ≤ (q : Nat) ∧ ((q : Nat) : Int) < 60; omega
/-- a literal is put in -/
theorem c_addLit (ht : okT t) (hw : wBu p S st) (h : pC μ t S st) (h7 : zI μ t 16 < 700) (h0 : 0 ≤ v) : zok (f2_addLiteral t v (opn st) μ) (fun m => pC m t (adL S (opn st) v) st ∧ frT t (zI μ t 16).toNat μ m ∧ zI m t 16 = zI μ t 16 + 1) := by
  obtain ⟨q1, q2, q3, q4, q5, q6, q7, q8, q9, q10, q11, q12, q13, q14, q15, q16⟩ := ht.f
  have q17 := okT_4 t ht.2 ht.1
  have hop := opn_rng hw.1 hw.2.1
  have hpt := chain_part hw.2.1
  obtain ⟨a1, a2, a3, a4, a5, a6, a7, a8, a9, a10⟩ := h
  obtain ⟨n, hn⟩ : ∃ n : Nat, zI μ t 16 = n := ⟨(zI μ t 16).toNat, by omega⟩
  have hW := hw.1
  unfold f2_addLiteral
  rw [q3, q14, q15, hn]
  refine zok_f (by omega) (zok_gd ⟨by omega, by omega⟩ (zok_lt ?_))
  rw [zI_nk (show t ≠ zit t by omega), hn]
  refine zok_gd ⟨by omega, by omega⟩ (zok_lt ?_)
  rw [zI_nk (show t ≠ zit t + 1 by omega), zI_nk (show t ≠ zit t by omega), hn]
  refine zok_gl ⟨by omega, by omega⟩ (zok_lt (zok_gl ⟨by omega, by omega⟩ (zok_gd ⟨by omega, by omega⟩ ?_)))
  have h8 := a8 (opn st + 1).toNat (by omega)
  rw [show (((opn st + 1).toNat : Nat) : Int) - 1 = opn st by omega] at h8
  have hl7 := (hW.2.2.2.2.2.2.2.1 _ hpt).2.2
  rw [zI_nk (show t + 8 ≠ t by omega), zI_nk (show t + 8 ≠ zit t + 1 by omega), zI_nk (show t + 8 ≠ zit t by omega), show zx (opn st + 1) = (opn st + 1).toNat from rfl, h8, show zx ((n : Nat) : Int) = n from rfl]
  refine zok_gl ⟨by omega, by omega⟩ (zok_gd ⟨by omega, by omega⟩ (zok_lt (zok_some ?_)))
  generalize hm : zsI (zsI (zsI (zsI μ (zit t) n v) (zit t + 1) n (opn st)) t 16 ((n : Int) + 1)) (t + 8) (opn st + 1).toNat ((lits (sB S (opn st)) : Int) + 1) = m
  have fz : zSm (fun c => (c < t ∨ t + 10 < c) ∧ c ≠ zit t ∧ c ≠ zit t + 1) μ m := by
    rw [← hm]
    exact (((zSm.rf.sI (fun q => q.2.1 rfl)).sI (fun q => q.2.2 rfl)).sI (fun q => by have := q.1; omega)).sI (fun q => by have := q.1; omega)
  have e16 : zI m t 16 = (n : Int) + 1 := by rw [← hm, zI_nk (show t ≠ t + 8 by omega), zI_eq rfl rfl]
  have eT : ∀ i, i ≠ 16 → zI m t i = zI μ t i := fun i hi => by rw [← hm, zI_nk (show t ≠ t + 8 by omega), zI_ni hi, zI_nk (show t ≠ zit t + 1 by omega), zI_nk (show t ≠ zit t by omega)]
  have eC : ∀ c, t < c → c ≤ t + 10 → c ≠ t + 8 → ∀ i, zI m c i = zI μ c i := fun c c1 c2 c3 i => by rw [← hm, zI_nk c3, zI_nk (show c ≠ t by omega), zI_nk (show c ≠ zit t + 1 by omega), zI_nk (show c ≠ zit t by omega)]
  have e8 : ∀ q, zI m (t + 8) q = if q = (opn st + 1).toNat then (lits (sB S (opn st)) : Int) + 1 else zI μ (t + 8) q := fun q => by
    rw [← hm]
    by_cases c : q = (opn st + 1).toNat
    · rw [if_pos c, zI_eq rfl c]
    · rw [if_neg c, zI_ni c, zI_nk (show t + 8 ≠ t by omega), zI_nk (show t + 8 ≠ zit t + 1 by omega), zI_nk (show t + 8 ≠ zit t by omega)]
  have ei : ∀ i, zI m (zit t) i = if i = n then v else zI μ (zit t) i := fun i => by
    rw [← hm, zI_nk (show zit t ≠ t + 8 by omega), zI_nk (show zit t ≠ t by omega), zI_nk (show zit t ≠ zit t + 1 by omega)]
    by_cases c : i = n
    · rw [if_pos c, zI_eq rfl c]
    · rw [if_neg c, zI_ni c]
  have ep : ∀ i, zI m (zit t + 1) i = if i = n then opn st else zI μ (zit t + 1) i := fun i => by
    rw [← hm, zI_nk (show zit t + 1 ≠ t + 8 by omega), zI_nk (show zit t + 1 ≠ t by omega)]
    by_cases c : i = n
    · rw [if_pos c, zI_eq rfl c]
    · rw [if_neg c, zI_ni c, zI_nk (show zit t + 1 ≠ zit t by omega)]
  have lo : ∀ i, i < n → zI m (zit t) i = zI μ (zit t) i ∧ zI m (zit t + 1) i = zI μ (zit t + 1) i := fun i hi => by
    rw [ei, ep, if_neg (by omega), if_neg (by omega)]; exact ⟨rfl, rfl⟩
  have eF : ∀ p, cFirst m t p = cFirst μ t p := fun p => by unfold cFirst; rw [eT 15 (by decide), eC (t + 9) (by omega) (by omega) (by omega)]
  have eO : ∀ p, cEndO m t st p = if p ∈ opns st then (n : Int) + 1 else cEndO μ t st p := fun p => by
    unfold cEndO
    by_cases c : p ∈ opns st
    · rw [if_pos c, if_pos c, e16]
    · rw [if_neg c, if_neg c, if_neg c, eC (t + 10) (by omega) (by omega) (by omega)]
  have eB : ∀ q, sB (adL S (opn st) v) q = if q = opn st then sB S (opn st) ++ [v] else sB S q := fun q => rfl
  have eTt : sT (adL S (opn st) v) = sT S + 1 := rfl
  have eNn : sN (adL S (opn st) v) = sN S := rfl
  have el : lits [v] = 1 := by unfold lits; rw [List.filter_cons, if_pos (by rw [decide_eq_true_eq]; omega)]; rfl
  rw [hn] at a7 a10
  refine ⟨⟨(eT 1 (by decide)).trans a1, fun i hi => (eC (t + 1) (by omega) (by omega) (by omega) i).trans (a2 i hi), (eT 2 (by decide)).trans a3, fun o ho => ?_, fun f hf => (eC (t + 7) (by omega) (by omega) (by omega) f).trans (a5 f hf), by rw [eT 3 (by decide)]; exact a6, ?_, fun q hq => ?_, fun p hp => ?_, fun o ho => ?_⟩, ⟨fz, fun i hi => lo i (by omega)⟩, e16⟩
  · rw [eC (t + 2) (by omega) (by omega) (by omega), eC (t + 3) (by omega) (by omega) (by omega), eC (t + 4) (by omega) (by omega) (by omega), eC (t + 5) (by omega) (by omega) (by omega), eC (t + 6) (by omega) (by omega) (by omega)]; exact a4 o ho
  · rw [e16, eT 15 (by decide), eTt, eNn]; omega
  · rw [e8, eB]
    by_cases c : q = (opn st + 1).toNat
    · rw [if_pos c, if_pos (by omega), lits_app, el]; omega
    · rw [if_neg c, if_neg (by omega)]; exact a8 q hq
  · have hp' : isPart S p := hp
    obtain ⟨b1, b2, b3, b4⟩ := a9 p hp'
    rw [hn] at b3
    rw [eF, eO, e16, eB]
    by_cases c : p ∈ opns st
    · have ec : cEndO μ t st p = n := by unfold cEndO; rw [if_pos c, hn]
      rw [ec] at b2 b3 b4
      rw [if_pos c]
      refine ⟨b1, by omega, Int.le_refl _, ?_⟩
      rw [show ((n : Int) + 1 - cFirst μ t p).toNat = ((n : Int) - cFirst μ t p).toNat + 1 by omega, pSel_snoc, show (cFirst μ t p).toNat + ((n : Int) - cFirst μ t p).toNat = n by omega, pSel_lo p _ _ (fun i h1 h2 => lo i (by omega)), b4, ei, ep, if_pos rfl, if_pos rfl]
      by_cases c2 : p = opn st
      · rw [if_pos c2, if_pos c2.symm, c2]
      · rw [if_neg c2, if_neg (fun e => c2 e.symm), List.append_nil]
    · have c2 : p ≠ opn st := fun e => c (by rw [e]; exact opn_mem st)
      rw [if_neg c, if_neg c2]
      exact ⟨b1, b2, by omega, (pSel_lo p _ _ (fun i h1 h2 => lo i (by omega))).trans b4⟩
  · have ho' : o < sN S := ho
    obtain ⟨b1, b2, b3, b4⟩ := a10 o ho'
    have ePp : sP (adL S (opn st) v) o = sP S o := rfl
    rw [ePp, eF, e16, eC (t + 9) (by omega) (by omega) (by omega)]
    refine ⟨b1, b2, by omega, (pSel_lo _ _ _ (fun i h1 h2 => lo i (by omega))).trans (b4.trans ?_)⟩
    unfold sAhead
    rw [ePp, eB]
    by_cases c : sP S o = opn st
    · rw [if_pos c, ← c, tw_app ⟨_, occ_own hW ho', decide_eq_false (fun q => q rfl)⟩]
    · rw [if_neg c]
end cb
