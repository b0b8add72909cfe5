/-! THE REFERENCE'S SNIPPET WHILE IT IS READ -/
def stR (μ : zM) : List Nat → Prop
  | [] => True
  | q :: r => zI μ 328 r.length = (q : Nat) ∧ stR μ r
def opnT : List Nat → List Int
  | [] => []
  | _ :: r => opns r
def dcn (S : zSn) : Nat := cnt (fun o => decide (sD S o = 1)) (sN S)
/-- the parts that are open around the innermost one, up to the place e -/
def mOp (μ : zM) (b k : Nat) (S : zSn) : List Nat → Int → Prop
  | [], _ => True
  | q :: r, e => 0 ≤ zI μ (b + 10) (60 * k + q) ∧ zI μ (b + 10) (60 * k + q) < e ∧ zI μ (b + 4) (zI μ (b + 10) (60 * k + q)).toNat = 1000 + (q : Int) ∧ 0 ≤ mFirst μ b k (opn r) ∧ (∃ l, sB S (opn r) = l ++ [-(q : Int) - 1] ∧ pWk μ b k (mFirst μ b k (opn r)) (zI μ (b + 10) (60 * k + q)) l) ∧ mOp μ b k S r e
def mC (μ : zM) (b k : Nat) (S : zSn) (st : List Nat) : Prop :=
  zI μ (b + 2) k = (sNm S).length ∧ (∀ i, i < (sNm S).length → zI μ (b + 1) (8 * k + i) = (sNm S).getD i 0) ∧ zI μ (b + 5) k = sN S ∧
  (∀ o, o < sN S → zI μ (b + 6) (60 * k + o) = sF S o ∧ zI μ (b + 7) (60 * k + o) = sC S o ∧ zI μ (b + 8) (60 * k + o) = sD S o ∧ zI μ (b + 9) (60 * k + o) = sP S o ∧ zI μ (b + 12) (60 * k + o) = sG S o) ∧
  (∀ f, f < 10 → zI μ (b + 13) (10 * k + f) = sE S f) ∧
  (0 ≤ zI μ (b + 3) k ∧ zI μ (b + 3) k ≤ zI μ 292 20 ∧ zI μ 292 20 ≤ 700 ∧ zI μ 292 20 - zI μ (b + 3) k - sN S - dcn S + st.length = sT S) ∧
  (zI μ 292 19 = st.length ∧ stR μ st) ∧
  (∀ q : Nat, q < sN S → sD S q = 1 → q ∉ st → 0 ≤ zI μ (b + 10) (60 * k + q) ∧ zI μ (b + 10) (60 * k + q) < zI μ (b + 11) (60 * k + q) ∧ zI μ (b + 11) (60 * k + q) < zI μ 292 20 ∧ pWk μ b k (zI μ (b + 10) (60 * k + q) + 1) (zI μ (b + 11) (60 * k + q)) (sB S (q : Nat))) ∧
  (0 ≤ mFirst μ b k (opn st) ∧ pWk μ b k (mFirst μ b k (opn st)) (zI μ 292 20) (sB S (opn st))) ∧
  mOp μ b k S st (zI μ 292 20)
section mc
variable {μ m : zM} {b k p n : Nat} {S S' : zSn} {st : List Nat} {v : Int} {f : Nat}
theorem pWk_le : ∀ (l : List Int) (a e : Int), pWk μ b k a e l → a ≤ e := by
  intro l
  cases l with
  | nil => intro a e h; exact Int.le_of_eq h
  | cons x l => intro a e h; have := h.2.1; omega
theorem pWk_snoc {x : Int} : ∀ (l : List Int) (a e : Int), pWk μ b k a e (l ++ [x]) → ∃ a', pWk μ b k a a' l ∧ pWk μ b k a' e [x] := by
  intro l
  induction l with
  | nil => intro a e h; exact ⟨a, rfl, h⟩
  | cons y l ih =>
    intro a e h
    obtain ⟨h0, h1, h2⟩ := h
    rcases h2 with ⟨c1, c2, c3⟩ | ⟨c1, c2, c3, c4⟩
    · obtain ⟨a', g1, g2⟩ := ih _ _ c3
      have := pWk_le _ _ _ g1
      exact ⟨a', ⟨h0, by omega, Or.inl ⟨c1, c2, g1⟩⟩, g2⟩
    · obtain ⟨a', g1, g2⟩ := ih _ _ c4
      have := pWk_le _ _ _ g1
      exact ⟨a', ⟨h0, by omega, Or.inr ⟨c1, c2, c3, g1⟩⟩, g2⟩
theorem sB_occ (hW : wS S) {q x : Int} (hp : isPart S q) (hx : x ∈ sB S q) (h0 : x < 0) : (-x - 1).toNat < sN S ∧ sP S (-x - 1).toNat = q := by
  have h1 := occs_mem hx h0
  rw [(hW.2.2.2.2.2.2.2.1 q hp).1, List.mem_filter] at h1
  exact ⟨List.mem_range.mp h1.1, of_decide_eq_true h1.2⟩
theorem opnT_sub {y : Int} : y ∈ opnT st → y ∈ opns st := by
  cases st with
  | nil => intro h; cases h
  | cons x r => intro h; exact List.mem_cons_of_mem _ h
theorem opnT_ne (hW : wS S) (hc : chain S st) : ∀ y ∈ opnT st, y ≠ opn st := by
  cases st with
  | nil => intro y h; cases h
  | cons x r =>
    intro y hy e
    have e1 : opn (x :: r) = (x : Nat) := rfl
    rcases opns_mem.mp hy with h | ⟨q, h1, h2⟩
    · omega
    · have := chain_lt hW r x hc q h1; omega
theorem mFirst_lo (hc : chain S st) (h3 : zI m (b + 3) k = zI μ (b + 3) k) (hat : ∀ o, o < sN S → zI m (b + 10) (60 * k + o) = zI μ (b + 10) (60 * k + o)) : mFirst m b k (opn st) = mFirst μ b k (opn st) := by
  unfold mFirst
  cases st with
  | nil => exact h3
  | cons x r =>
    have e1 : opn (x :: r) = (x : Nat) := rfl
    rw [e1, if_neg (by omega), if_neg (by omega), show ((x : Nat) : Int).toNat = x from rfl, hat x hc.1]
theorem mOp_lo (hW : wS S) {e e' : Int} (he : e ≤ e') (h3 : zI m (b + 3) k = zI μ (b + 3) k) (h4 : ∀ i : Nat, (i : Int) < e → zI m (b + 4) i = zI μ (b + 4) i) (hat : ∀ o, o < sN S → zI m (b + 10) (60 * k + o) = zI μ (b + 10) (60 * k + o)) (hto : ∀ o, o < sN S → sP S o ≠ v → zI m (b + 11) (60 * k + o) = zI μ (b + 11) (60 * k + o)) : ∀ st, chain S st → (∀ y ∈ opnT st, y ≠ v ∧ sB S' y = sB S y) → mOp μ b k S st e → mOp m b k S' st e' := by
  intro st
  induction st with
  | nil => intro _ _ _; trivial
  | cons q r ih =>
    intro hc hv h
    obtain ⟨h1, h2, h3', h5, ⟨l, h6, h7⟩, h8⟩ := h
    have eq := hat q hc.1
    have hr : chain S r := hc.2.2.2
    have eF : mFirst m b k (opn r) = mFirst μ b k (opn r) := mFirst_lo hr h3 hat
    have hv0 := hv (opn r) (opn_mem r)
    refine ⟨by rw [eq]; exact h1, by rw [eq]; omega, by rw [eq, h4 _ (by omega)]; exact h3', by rw [eF]; exact h5, ⟨l, by rw [hv0.2]; exact h6, ?_⟩, ih hr (fun y hy => hv y (opnT_sub hy)) h8⟩
    rw [eF, eq]
    refine pWk_lo l _ (fun i hi => h4 i (by omega)) (fun x hx h0 => ?_) h7
    have ho := sB_occ hW (chain_part hr) (show x ∈ sB S (opn r) by rw [h6]; exact List.mem_append_left _ hx) h0
    exact ⟨hat _ ho.1, hto _ ho.1 (by rw [ho.2]; exact hv0.1)⟩
theorem stR_lo (h : ∀ i, i < st.length → zI m 328 i = zI μ 328 i) (hs : stR μ st) : stR m st := by
  induction st with
  | nil => trivial
  | cons q r ih => exact ⟨(h r.length (by rw [List.length_cons]; omega)).trans hs.1, ih (fun i hi => h i (by rw [List.length_cons]; omega)) hs.2⟩
theorem stR_get (hs : stR μ st) {j : Nat} (hj : j < st.length) : ∃ x, zI μ 328 j = (x : Nat) ∧ st.drop (st.length - (j + 1)) = x :: st.drop (st.length - j) := by
  induction st with
  | nil => exact absurd hj (Nat.not_lt_zero j)
  | cons q r ih =>
    rw [List.length_cons] at hj ⊢
    by_cases e : j = r.length
    · subst e
      refine ⟨q, hs.1, ?_⟩
      rw [show r.length + 1 - (r.length + 1) = 0 by omega, show r.length + 1 - r.length = 0 + 1 by omega]; rfl
    · obtain ⟨x, h1, h2⟩ := ih hs.2 (by omega)
      refine ⟨x, h1, ?_⟩
      rw [show r.length + 1 - (j + 1) = r.length - (j + 1) + 1 by omega, show r.length + 1 - j = r.length - j + 1 by omega, List.drop_succ_cons, List.drop_succ_cons]; exact h2
theorem mC.lo (hW : wS S) (hc : chain S st) (h : mC μ b k S st) (hp : ∀ j, 1 ≤ j → j ≤ 13 → ∀ i, zI m (b + j) i = zI μ (b + j) i) (h20 : zI m 292 20 = zI μ 292 20) (h19 : zI m 292 19 = zI μ 292 19) (h328 : ∀ i, zI m 328 i = zI μ 328 i) : mC m b k S st := by
  obtain ⟨a1, a2, a3, a4, a5, a6, a7, a8, a9, a10⟩ := h
  have hF := mFirst_lo (m := m) hc (hp 3 (by decide) (by decide) k) (fun o _ => hp 10 (by decide) (by decide) _)
  have e4 := hp 4 (by decide) (by decide)
  have e10 := hp 10 (by decide) (by decide)
  have e11 := hp 11 (by decide) (by decide)
  refine ⟨(hp 2 (by decide) (by decide) k).trans a1, fun i hi => (hp 1 (by decide) (by decide) _).trans (a2 i hi), (hp 5 (by decide) (by decide) k).trans a3, fun o ho => ?_, fun f hf => (hp 13 (by decide) (by decide) _).trans (a5 f hf), by rw [hp 3 (by decide) (by decide), h20]; exact a6, ⟨h19.trans a7.1, stR_lo (fun i _ => h328 i) a7.2⟩, fun q h1 h2 h3 => ?_, ?_, ?_⟩
  · rw [hp 6 (by decide) (by decide), hp 7 (by decide) (by decide), hp 8 (by decide) (by decide), hp 9 (by decide) (by decide), hp 12 (by decide) (by decide)]; exact a4 o ho
  · rw [e10, e11, h20]
    obtain ⟨b1, b2, b3, b4⟩ := a8 q h1 h2 h3
    exact ⟨b1, b2, b3, pWk_congr e4 e10 e11 _ _ _ b4⟩
  · rw [hF, h20]
    exact ⟨a9.1, pWk_congr e4 e10 e11 _ _ _ a9.2⟩
  · rw [h20]
    exact mOp_lo (v := -2) hW (Int.le_refl _) (hp 3 (by decide) (by decide) k) (fun i _ => e4 i) (fun o _ => e10 _) (fun o _ _ => e11 _) st hc (fun y hy => ⟨by rcases opns_mem.mp (opnT_sub hy) with h | ⟨q, -, h⟩ <;> omega, rfl⟩) a10
theorem b_ne (hb : okB b) {j : Nat} (hj : j ≤ 13) : b + j ≠ 292 ∧ b + j ≠ 313 ∧ b + j ≠ 328 := by rcases hb with rfl | rfl <;> omega
/-- an item is put in -/
theorem n_item (hb : okB b) (h13 : zR μ 292 13 = b) (hn : zI μ 292 20 = (n : Nat)) (h7 : n < 700) (v : Int) : zok (f7_item v μ) (fun m => m = zsI (zsI μ (b + 4) n v) 292 20 (n + 1)) := by
  obtain ⟨-, -, -, z4, -⟩ := okB_f hb
  have hne := b_ne hb (show 4 ≤ 13 by decide)
  unfold f7_item
  rw [h13, hn, z4, zx_nat]
  refine zok_gd ⟨by omega, by omega⟩ (zok_lt ?_)
  rw [zI_nk (fun e => hne.1 e.symm), hn]
  exact zok_gl ⟨by omega, by omega⟩ (zok_lt (zok_some rfl))
theorem mC.lit (hb : okB b) (hw : wBu p S st) (h : mC μ b k S st) (hn : zI μ 292 20 = (n : Nat)) (h7 : n < 700) (h0 : 0 ≤ v) : mC (zsI (zsI μ (b + 4) n v) 292 20 ((n : Int) + 1)) b k (adL S (opn st) v) st := by
  obtain ⟨a1, a2, a3, a4, a5, a6, a7, a8, a9, a10⟩ := h
  have hW := hw.1
  have hc := hw.2.1
  rw [hn] at a6 a8 a9 a10
  generalize hm : zsI (zsI μ (b + 4) n v) 292 20 ((n : Int) + 1) = m
  have e : ∀ j, j ≤ 13 → j ≠ 4 → ∀ i, zI m (b + j) i = zI μ (b + j) i := fun j hj h4 i => by
    have := b_ne hb hj
    rw [← hm, zI_nk this.1, zI_nk (by omega)]
  have ei : ∀ i, zI m (b + 4) i = if i = n then v else zI μ (b + 4) i := fun i => by
    have := b_ne hb (show 4 ≤ 13 by decide)
    rw [← hm, zI_nk this.1]
    by_cases c : i = n
    · rw [if_pos c, zI_eq rfl c]
    · rw [if_neg c, zI_ni c]
  have lo : ∀ i : Nat, (i : Int) < (n : Nat) → zI m (b + 4) i = zI μ (b + 4) i := fun i hi => by rw [ei, if_neg (by omega)]
  have e20 : zI m 292 20 = (n : Int) + 1 := by rw [← hm, zI_eq rfl rfl]
  have hne := b_ne hb (show 4 ≤ 13 by decide)
  have e19 : zI m 292 19 = zI μ 292 19 := by rw [← hm, zI_ni (by decide), zI_nk (fun e => hne.1 e.symm)]
  have e328 : ∀ i, zI m 328 i = zI μ 328 i := fun i => by rw [← hm, zI_nk (by decide), zI_nk (fun e => hne.2.2 e.symm)]
  have hF := mFirst_lo (m := m) hc (e 3 (by decide) (by decide) k) (fun o _ => e 10 (by decide) (by decide) _)
  have eB : ∀ q, sB (adL S (opn st) v) q = if q = opn st then sB S (opn st) ++ [v] else sB S q := fun q => rfl
  have eTt : sT (adL S (opn st) v) = sT S + 1 := rfl
  have eNn : sN (adL S (opn st) v) = sN S := rfl
  have eDc : dcn (adL S (opn st) v) = dcn S := rfl
  refine ⟨(e 2 (by decide) (by decide) k).trans a1, fun i hi => (e 1 (by decide) (by decide) _).trans (a2 i hi), (e 5 (by decide) (by decide) k).trans a3, fun o ho => ?_, fun f hf => (e 13 (by decide) (by decide) _).trans (a5 f hf), ?_, ⟨e19.trans a7.1, stR_lo (fun i _ => e328 i) a7.2⟩, fun q h1 h2 h3 => ?_, ?_, ?_⟩
  · rw [e 6 (by decide) (by decide), e 7 (by decide) (by decide), e 8 (by decide) (by decide), e 9 (by decide) (by decide), e 12 (by decide) (by decide)]; exact a4 o ho
  · rw [e 3 (by decide) (by decide), e20, eTt, eNn, eDc]; omega
  · have h1' : q < sN S := h1
    obtain ⟨b1, b2, b3, b4⟩ := a8 q h1' h2 h3
    have hqo : ((q : Nat) : Int) ≠ opn st := fun e => by
      cases st with
      | nil => have e1 : opn [] = -1 := rfl; omega
      | cons x r => have e1 : opn (x :: r) = (x : Nat) := rfl; exact h3 (by rw [show q = x by omega]; exact List.mem_cons_self)
    rw [e 10 (by decide) (by decide), e 11 (by decide) (by decide), e20, eB, if_neg hqo]
    exact ⟨b1, b2, by omega, pWk_lo _ _ (fun i hi => lo i (by omega)) (fun x _ _ => ⟨e 10 (by decide) (by decide) _, e 11 (by decide) (by decide) _⟩) b4⟩
  · rw [hF, e20, eB, if_pos rfl]
    refine ⟨a9.1, pWk_app (by omega) (e := (n : Int)) ?_ _ _ (pWk_lo _ _ lo (fun x _ _ => ⟨e 10 (by decide) (by decide) _, e 11 (by decide) (by decide) _⟩) a9.2)⟩
    exact ⟨by omega, by omega, Or.inl ⟨h0, by rw [ei, if_pos (by omega)], rfl⟩⟩
  · rw [e20]
    exact mOp_lo (v := -2) hW (show (n : Int) ≤ (n : Int) + 1 by omega) (e 3 (by decide) (by decide) k) lo (fun o _ => e 10 (by decide) (by decide) _) (fun o _ _ => e 11 (by decide) (by decide) _) st hc (fun y hy => ⟨by rcases opns_mem.mp (opnT_sub hy) with h | ⟨q, -, h⟩ <;> omega, by rw [eB, if_neg (opnT_ne hW hc y hy)]⟩) a10
end mc
