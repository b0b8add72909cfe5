/-! THE REFERENCE'S LIBRARY WHILE IT IS READ -/
def rowF (bb k n : Nat) (μ m : zM) : Prop := ∀ j, 1 ≤ j → j ≤ 13 → ∀ i, i < mlo k n j → zI m (bb + j) i = zI μ (bb + j) i
def gfM (b : Nat) (μ m : zM) : Prop := zSm (fun c => c ≠ 292 ∧ c ≠ 328 ∧ (c < b ∨ b + 13 < c)) μ m ∧ (∀ i, zR m 292 i = zR μ 292 i) ∧ (∀ i, i < 11 ∨ 20 < i → zI m 292 i = zI μ 292 i)
theorem rfM.g {b k n : Nat} {μ m : zM} (h : rfM b k n μ m) : gfM b μ m := ⟨h.1, h.2.1, h.2.2.1⟩
theorem gfM.tr {b : Nat} {μ m m' : zM} (h : gfM b μ m) (h' : gfM b m m') : gfM b μ m' := ⟨h.1.tr h'.1, fun i => (h'.2.1 i).trans (h.2.1 i), fun i hi => (h'.2.2 i hi).trans (h.2.2 i hi)⟩
theorem gfM.rf {b : Nat} {μ : zM} : gfM b μ μ := ⟨zSm.rf, fun _ => rfl, fun _ _ => rfl⟩
def pSn (μ : zM) (bb k : Nat) (S : zSn) : Prop := pSm μ bb k S ∧ wS S ∧ ∀ p, isPart S p → mEnd μ bb k p ≤ zI μ 292 20
section mlib
variable {b : List Int} {bb k n p q d o nn : Nat} {μ m m' : zM} {S : zSn} {st : List Nat} {v : Int} {f j : Nat}
theorem pSn.lo (hn : zI μ 292 20 = (nn : Nat)) (hle : (nn : Int) ≤ zI m 292 20) (F : rowF bb k nn μ m) (hj : j < k) (h : pSn μ bb j S) : pSn m bb j S := by
  obtain ⟨⟨a1, a2, a3, a4, a5, a6, a7⟩, hW, hE⟩ := h
  rw [hn] at hE
  have h8 := hW.2.1
  have h60 := hW.1
  have e3 : ∀ i, i ≤ k → zI m (bb + 3) i = zI μ (bb + 3) i := fun i hi => F 3 (by decide) (by decide) i (by rw [mlo_3, if_neg (by omega)]; omega)
  have er : ∀ j', 6 ≤ j' → j' ≤ 12 → ∀ o, o < sN S → zI m (bb + j') (60 * j + o) = zI μ (bb + j') (60 * j + o) := fun j' h1 h2 o ho => F j' (by omega) (by omega) _ (by rw [mlo_60 h1 h2]; omega)
  have e4 : ∀ i : Nat, (i : Int) < (nn : Nat) → zI m (bb + 4) i = zI μ (bb + 4) i := fun i hi => F 4 (by decide) (by decide) i (by rw [mlo_4]; omega)
  have eF : ∀ p, isPart S p → mFirst m bb j p = mFirst μ bb j p := fun p hp => by
    unfold mFirst
    rcases hp with e | ⟨o, e, h1, h2⟩
    · rw [if_pos e, if_pos e, e3 j (by omega)]
    · rw [if_neg (by omega), if_neg (by omega), e, show ((o : Nat) : Int).toNat = o from rfl, er 10 (by decide) (by decide) o h1]
  have eE : ∀ p, isPart S p → mEnd m bb j p = mEnd μ bb j p := fun p hp => by
    unfold mEnd
    rcases hp with e | ⟨o, e, h1, h2⟩
    · rw [if_pos e, if_pos e, e3 (j + 1) (by omega)]
    · rw [if_neg (by omega), if_neg (by omega), e, show ((o : Nat) : Int).toNat = o from rfl, er 11 (by decide) (by decide) o h1]
  refine ⟨⟨(F 2 (by decide) (by decide) j (by rw [mlo_2]; omega)).trans a1, fun i hi => (F 1 (by decide) (by decide) _ (by rw [mlo_1]; omega)).trans (a2 i hi), (F 5 (by decide) (by decide) j (by rw [mlo_5]; omega)).trans a3, fun o ho => ?_, fun f hf => (F 13 (by decide) (by decide) _ (by rw [mlo_13]; omega)).trans (a5 f hf), ?_, fun p hp => ?_⟩, hW, fun p hp => ?_⟩
  · rw [er 6 (by decide) (by decide) o ho, er 7 (by decide) (by decide) o ho, er 8 (by decide) (by decide) o ho, er 9 (by decide) (by decide) o ho, er 12 (by decide) (by decide) o ho]; exact a4 o ho
  · rw [e3 j (by omega), e3 (j + 1) (by omega)]; exact a6
  · rw [eF p hp, eE p hp]
    obtain ⟨b1, b2, b3, b4⟩ := a7 p hp
    have := hE p hp
    refine ⟨b1, b2, b3, pWk_lo _ _ (fun i hi => e4 i (by omega)) (fun x hx h0 => ?_) b4⟩
    have ho := sB_occ hW hp hx h0
    exact ⟨er 10 (by decide) (by decide) _ ho.1, er 11 (by decide) (by decide) _ ho.1⟩
  · rw [eE p hp]; have := hE p hp; omega
/-- a snippet that is read to its end -/
theorem mC.fin (hb : okB bb) (hW : wS S) (h : mC μ bb k S []) : pSn (zsI (zsI μ bb 0 v) (bb + 3) (k + 1) (zI μ 292 20)) bb k S := by
  obtain ⟨a1, a2, a3, a4, a5, a6, a7, a8, a9, a10⟩ := h
  generalize hm : zsI (zsI μ bb 0 v) (bb + 3) (k + 1) (zI μ 292 20) = m
  have e : ∀ j, 1 ≤ j → j ≠ 3 → ∀ i, zI m (bb + j) i = zI μ (bb + j) i := fun j h1 h3 i => by rw [← hm, zI_nk (by omega), zI_nk (by omega)]
  have e3 : zI m (bb + 3) k = zI μ (bb + 3) k := by rw [← hm, zI_ni (by omega), zI_nk (by omega)]
  have e3' : zI m (bb + 3) (k + 1) = zI μ 292 20 := by rw [← hm, zI_eq rfl rfl]
  have bn : ∀ j, j ≤ 13 → 292 ≠ bb + j := fun j hj e => (b_ne hb hj).1 e.symm
  have e20 : zI m 292 20 = zI μ 292 20 := by rw [← hm, zI_nk (bn 3 (by decide)), zI_nk (show 292 ≠ bb from bn 0 (by decide))]
  have part : ∀ p, isPart S p → (0 ≤ mFirst m bb k p ∧ mFirst m bb k p ≤ mEnd m bb k p ∧ mEnd m bb k p ≤ 700 ∧ pWk m bb k (mFirst m bb k p) (mEnd m bb k p) (sB S p)) ∧ mEnd m bb k p ≤ zI μ 292 20 := fun p hp => by
    rcases hp with c | ⟨o, c, h1, h2⟩
    · subst c
      have ef : mFirst m bb k (-1) = mFirst μ bb k (opn []) := by show (if (-1 : Int) = -1 then _ else _) = (if (-1 : Int) = -1 then _ else _); rw [if_pos rfl, if_pos rfl, e3]
      have ee : mEnd m bb k (-1) = zI μ 292 20 := by unfold mEnd; rw [if_pos rfl, e3']
      rw [ef, ee]
      have := pWk_le _ _ _ a9.2
      exact ⟨⟨a9.1, this, a6.2.2.1, pWk_congr (e 4 (by decide) (by decide)) (e 10 (by decide) (by decide)) (e 11 (by decide) (by decide)) _ _ _ a9.2⟩, Int.le_refl _⟩
    · subst c
      obtain ⟨b1, b2, b3, b4⟩ := a8 o h1 h2 (fun h => by cases h)
      have ef : mFirst m bb k (o : Nat) = zI μ (bb + 10) (60 * k + o) + 1 := by unfold mFirst; rw [if_neg (by omega), show ((o : Nat) : Int).toNat = o from rfl, e 10 (by decide) (by decide)]
      have ee : mEnd m bb k (o : Nat) = zI μ (bb + 11) (60 * k + o) := by unfold mEnd; rw [if_neg (by omega), show ((o : Nat) : Int).toNat = o from rfl, e 11 (by decide) (by decide)]
      rw [ef, ee]
      exact ⟨⟨by omega, by omega, by omega, pWk_congr (e 4 (by decide) (by decide)) (e 10 (by decide) (by decide)) (e 11 (by decide) (by decide)) _ _ _ b4⟩, by omega⟩
  refine ⟨⟨(e 2 (by decide) (by decide) k).trans a1, fun i hi => (e 1 (by decide) (by decide) _).trans (a2 i hi), (e 5 (by decide) (by decide) k).trans a3, fun o ho => ?_, fun f hf => (e 13 (by decide) (by decide) _).trans (a5 f hf), ?_, fun p hp => (part p hp).1⟩, hW, fun p hp => by rw [e20]; exact (part p hp).2⟩
  · rw [e 6 (by decide) (by decide), e 7 (by decide) (by decide), e 8 (by decide) (by decide), e 9 (by decide) (by decide), e 12 (by decide) (by decide)]; exact a4 o ho
  · rw [e3, e3']
    have h6 := a6.2.2.2
    refine ⟨a6.1, a6.2.1, a6.2.2.1, ?_⟩
    unfold dcn at h6
    rw [show ([] : List Nat).length = 0 from rfl] at h6
    omega
/-- a snippet that begins -/
theorem mC.nw {nm : List Int} (h1 : zI μ (bb + 2) k = nm.length) (h2 : ∀ i, i < nm.length → zI μ (bb + 1) (8 * k + i) = nm.getD i 0) (h3 : zI μ (bb + 5) k = 0) (h4 : ∀ f, f < 10 → zI μ (bb + 13) (10 * k + f) = 0) (h5 : zI μ (bb + 3) k = zI μ 292 20) (h6 : 0 ≤ zI μ 292 20 ∧ zI μ 292 20 ≤ 700) (h7 : zI μ 292 19 = 0) : mC μ bb k (nwS nm) [] := by
  refine ⟨h1, h2, h3, fun o ho => absurd ho (Nat.not_lt_zero o), h4, ?_, ⟨h7, trivial⟩, fun q hq => absurd hq (Nat.not_lt_zero q), ?_, trivial⟩
  · rw [h5]
    refine ⟨h6.1, Int.le_refl _, h6.2, ?_⟩
    show zI μ 292 20 - zI μ 292 20 - ((0 : Nat) : Int) - ((0 : Nat) : Int) + ((0 : Nat) : Int) = 0
    omega
  · have ef : mFirst μ bb k (opn []) = zI μ (bb + 3) k := if_pos rfl
    rw [ef, h5]
    exact ⟨h6.1, rfl⟩
/-- the library with n snippets read, all items ahead of the place c -/
def rdLB (b : List Int) (bb n : Nat) (L : Nat → zSn) (o : Int) (m : zM) (c : Nat) : Prop := mdK b m ∧ zR m 292 13 = bb ∧ zI m bb 0 = (n : Nat) ∧ n ≤ 8 ∧ zI m bb 1 = o ∧ (o = 0 ∨ o = 1) ∧ (zI m 292 11 = 0 ∧ zI m 292 12 = -1) ∧ (0 ≤ zI m 292 20 ∧ zI m 292 20 ≤ c) ∧ (n ≠ 0 → zI m (bb + 3) n = zI m 292 20) ∧ ∀ k, k < n → pSn m bb k (L k)
/-- a token stands ready that begins at q -/
def rdTk (b : List Int) (m : zM) (q : Nat) : Prop := zI m 292 15 = (q : Nat) ∧ zI m 292 17 = zb (isLt (bt b q)) ∧ zI m 292 14 = (tkE b q : Nat) ∧ zI m 292 16 = (tkE b q : Nat)
variable {L : Nat → zSn} {oo : Int} {c : Nat}
theorem rdLB.le {c' : Nat} (h : rdLB b bb n L oo μ c) (hc : c ≤ c') : rdLB b bb n L oo μ c' := by
  obtain ⟨a1, a2, a3, a4, a5, a6, a7, a8, a9⟩ := h
  exact ⟨a1, a2, a3, a4, a5, a6, a7, ⟨a8.1, by omega⟩, a9⟩
theorem rdLB.tk (hb : okB bb) (h : rdLB b bb n L oo μ c) (ht : mTk μ m) : rdLB b bb n L oo m c := by
  obtain ⟨a1, a2, a3, a4, a5, a6, a7, a8, a9, a10⟩ := h
  have e : ∀ i, i ≠ 14 → i ≠ 15 → i ≠ 16 → i ≠ 17 → zI m 292 i = zI μ 292 i := ht.2.2
  have eb : ∀ j, j ≤ 13 → ∀ i, zI m (bb + j) i = zI μ (bb + j) i := fun j hj i => (ht.1 (bb + j) (b_ne hb hj).1 i).1
  have e20 := e 20 (by decide) (by decide) (by decide) (by decide)
  refine ⟨ht.k a1, (ht.2.1 13).trans a2, (eb 0 (by decide) 0).trans a3, a4, (eb 0 (by decide) 1).trans a5, a6, ⟨(e 11 (by decide) (by decide) (by decide) (by decide)).trans a7.1, (e 12 (by decide) (by decide) (by decide) (by decide)).trans a7.2⟩, by rw [e20]; exact a8, fun hn => by rw [e20, eb 3 (by decide)]; exact a9 hn, fun k hk => ?_⟩
  obtain ⟨nn, hn⟩ : ∃ nn : Nat, zI μ 292 20 = nn := ⟨(zI μ 292 20).toNat, by omega⟩
  exact (a10 k hk).lo (k := n) hn (by rw [e20, hn]; exact Int.le_refl _) (fun j h1 h2 i _ => eb j h2 i) hk
theorem n_token2 (hb : okB bb) (hby : byB b) (h : rdLB b bb n L oo μ c) (hp : zI μ 292 14 = (p : Nat)) (hpl : p ≤ b.length) : zok (f7_token μ) (fun m => mTk μ m ∧ rdLB b bb n L oo m c ∧ rdTk b m (spn isBl b p)) := zok_mono (n_token hby h.1 hp hpl) (fun m hm => ⟨hm.1, h.tk hb hm.1, hm.2.1, hm.2.2.1, hm.2.2.2.1, hm.2.2.2.2⟩)
theorem tkE_r (hby : byB b) (hq : q ≤ b.length) : q ≤ tkE b q ∧ tkE b q ≤ b.length ∧ (tkE b q = q ↔ b.length ≤ q) := by
  have hr := bt_r hby q
  unfold tkE
  by_cases c : isLt (bt b q) = true
  · rw [if_pos c]
    have h1 := spn_ge isLt b q
    have h2 := spn_le isLt hq
    have hin : q < b.length := by
      rcases hr with ⟨a, -⟩ | ⟨-, -, a⟩
      · rw [a] at c; exact absurd c (by decide)
      · exact a
    have h3 : q < spn isLt b q := by
      unfold spn
      rw [List.drop_eq_getElem_cons hin, List.takeWhile_cons, if_pos (by rw [bt_in hin, List.getD_eq_getElem?_getD, List.getElem?_eq_getElem hin] at c; exact c), List.length_cons]; omega
    exact ⟨h1, h2, by omega⟩
  · rw [if_neg c]
    by_cases c2 : bt b q = -1
    · rw [if_pos c2]; omega
    · rw [if_neg c2]; omega
end mlib
